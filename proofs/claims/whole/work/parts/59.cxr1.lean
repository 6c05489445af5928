/-! the class's tokens -/
theorem cb_1 {c : Nat} (hc : c < 256) (h : by8 c = nI 10) : blC c = true := by
  rw [(by8_eq hc (by decide)).mp h]
  decide
theorem cb_2 {c : Nat} (hc : c < 256) (h : by8 c = nI 32) : blC c = true := by
  rw [(by8_eq hc (by decide)).mp h]
  decide
theorem cb_n {c : Nat} (hc : c < 256) (h1 : ¬ by8 c = nI 10) (h2 : ¬ by8 c = nI 32) : blC c = false := by
  unfold blC
  rw [decide_eq_false (fun q => h2 ((by8_eq hc (by decide)).mpr q)), decide_eq_false (fun q => h1 ((by8_eq hc (by decide)).mpr q))]
  rfl

set_option maxRecDepth 100000 in
set_option maxHeartbeats 4000000 in
theorem c_isLetter {l : Launch} {w : Wd} (hW : Wi w) {σ : Mem} (v : Int32)  : MC l w qX7_isLetter 0 [.int v] σ (some (.int (b2i (decide (nI 97 ≤ v) && decide (v ≤ nI 122))))) (fun σ' => σ' = σ) := by
  refine MC.of hW (by decide +kernel) (Nat.le_of_ble_eq_true rfl) (fun X h hQ hnm => ?_)
  have h : Fx X w cX7_isLetter 1 RX7 0 := h
  have hQ : Qx X w (some .boolean) (some (.int (b2i (decide (nI 97 ≤ v) && decide (v ≤ nI 122))))) (fun σ' => σ' = σ) := hQ
  show G X w 1 0 [(0, .int v)] [] σ
  refine g_iload_n h dX7_isLetter_0 0 rfl ?_
  refine g_bipush h dX7_isLetter_1 (by decide) ?_
  refine g_icmp_lt h dX7_isLetter_3 (fun c3 => ?_) (fun c3 => ?_)
  ·
    refine g_iconst h dX7_isLetter_16 (by decide) ?_
    exact g_zret h hQ dX7_isLetter_17 (show narrow .boolean (.int (b2i false)) = .int (b2i false) from narrow_b2i _) (congrArg (fun z => some (Value.int (b2i z))) (show (decide (nI 97 ≤ v) && decide (v ≤ nI 122)) = false by first | (simp [Int32.not_le.mpr c3]; done) | (simp [Int32.not_le.mpr c9]; done) | (simp [Int32.not_lt.mp c3, Int32.not_lt.mp c9]; done) | fail)) rfl
  ·
    refine g_iload_n h dX7_isLetter_6 0 rfl ?_
    refine g_bipush h dX7_isLetter_7 (by decide) ?_
    refine g_icmp_gt h dX7_isLetter_9 (fun c9 => ?_) (fun c9 => ?_)
    ·
      refine g_iconst h dX7_isLetter_16 (by decide) ?_
      exact g_zret h hQ dX7_isLetter_17 (show narrow .boolean (.int (b2i false)) = .int (b2i false) from narrow_b2i _) (congrArg (fun z => some (Value.int (b2i z))) (show (decide (nI 97 ≤ v) && decide (v ≤ nI 122)) = false by first | (simp [Int32.not_le.mpr c3]; done) | (simp [Int32.not_le.mpr c9]; done) | (simp [Int32.not_lt.mp c3, Int32.not_lt.mp c9]; done) | fail)) rfl
    ·
      refine g_iconst h dX7_isLetter_12 (by decide) ?_
      refine g_goto h dX7_isLetter_13 ?_
      exact g_zret h hQ dX7_isLetter_17 (show narrow .boolean (.int (b2i true)) = .int (b2i true) from narrow_b2i _) (congrArg (fun z => some (Value.int (b2i z))) (show (decide (nI 97 ≤ v) && decide (v ≤ nI 122)) = true by first | (simp [Int32.not_le.mpr c3]; done) | (simp [Int32.not_le.mpr c9]; done) | (simp [Int32.not_lt.mp c3, Int32.not_lt.mp c9]; done) | fail)) rfl

set_option maxRecDepth 100000 in
set_option maxHeartbeats 4000000 in
theorem c_isDigit {l : Launch} {w : Wd} (hW : Wi w) {σ : Mem} (v : Int32)  : MC l w qX7_isDigit 0 [.int v] σ (some (.int (b2i (decide (nI 48 ≤ v) && decide (v ≤ nI 57))))) (fun σ' => σ' = σ) := by
  refine MC.of hW (by decide +kernel) (Nat.le_of_ble_eq_true rfl) (fun X h hQ hnm => ?_)
  have h : Fx X w cX7_isDigit 1 RX7 0 := h
  have hQ : Qx X w (some .boolean) (some (.int (b2i (decide (nI 48 ≤ v) && decide (v ≤ nI 57))))) (fun σ' => σ' = σ) := hQ
  show G X w 1 0 [(0, .int v)] [] σ
  refine g_iload_n h dX7_isDigit_0 0 rfl ?_
  refine g_bipush h dX7_isDigit_1 (by decide) ?_
  refine g_icmp_lt h dX7_isDigit_3 (fun c3 => ?_) (fun c3 => ?_)
  ·
    refine g_iconst h dX7_isDigit_16 (by decide) ?_
    exact g_zret h hQ dX7_isDigit_17 (show narrow .boolean (.int (b2i false)) = .int (b2i false) from narrow_b2i _) (congrArg (fun z => some (Value.int (b2i z))) (show (decide (nI 48 ≤ v) && decide (v ≤ nI 57)) = false by first | (simp [Int32.not_le.mpr c3]; done) | (simp [Int32.not_le.mpr c9]; done) | (simp [Int32.not_lt.mp c3, Int32.not_lt.mp c9]; done) | fail)) rfl
  ·
    refine g_iload_n h dX7_isDigit_6 0 rfl ?_
    refine g_bipush h dX7_isDigit_7 (by decide) ?_
    refine g_icmp_gt h dX7_isDigit_9 (fun c9 => ?_) (fun c9 => ?_)
    ·
      refine g_iconst h dX7_isDigit_16 (by decide) ?_
      exact g_zret h hQ dX7_isDigit_17 (show narrow .boolean (.int (b2i false)) = .int (b2i false) from narrow_b2i _) (congrArg (fun z => some (Value.int (b2i z))) (show (decide (nI 48 ≤ v) && decide (v ≤ nI 57)) = false by first | (simp [Int32.not_le.mpr c3]; done) | (simp [Int32.not_le.mpr c9]; done) | (simp [Int32.not_lt.mp c3, Int32.not_lt.mp c9]; done) | fail)) rfl
    ·
      refine g_iconst h dX7_isDigit_12 (by decide) ?_
      refine g_goto h dX7_isDigit_13 ?_
      exact g_zret h hQ dX7_isDigit_17 (show narrow .boolean (.int (b2i true)) = .int (b2i true) from narrow_b2i _) (congrArg (fun z => some (Value.int (b2i z))) (show (decide (nI 48 ≤ v) && decide (v ≤ nI 57)) = true by first | (simp [Int32.not_le.mpr c3]; done) | (simp [Int32.not_le.mpr c9]; done) | (simp [Int32.not_lt.mp c3, Int32.not_lt.mp c9]; done) | fail)) rfl

set_option maxRecDepth 100000 in
set_option maxHeartbeats 16000000 in
theorem c_advance {l : Launch} {w : Wd} (hW : Wi w) {σ : Mem} (e L : Nat) (x : Nat → Nat) (he : e ≤ L) (hL : L ≤ 400) (ht15002_σ : σ 15002 = (nI L)) (ht15005_σ : σ 15005 = (nI e)) (hcTX_σ : TX 15600 σ L x) : MC l w qX7_advance 1 [.ref (w.1 15)] σ none (fun σ' => (σ' 15002 = (nI L)) ∧ (σ' 15003 = (nI (txK x L e))) ∧ (σ' 15004 = (nI (txS x L e))) ∧ (σ' 15005 = (nI (txE x L e))) ∧ (TX 15600 σ' L x) ∧ (∀ a, (a < 15003 ∨ 15005 < a) → σ' a = σ a)) := by
  refine MC.of hW (by decide +kernel) (Nat.le_of_ble_eq_true rfl) (fun X h hQ hnm => ?_)
  have h : Fx X w cX7_advance 1 RX7 1 := h
  have hQ : Qx X w none none (fun σ' => (σ' 15002 = (nI L)) ∧ (σ' 15003 = (nI (txK x L e))) ∧ (σ' 15004 = (nI (txS x L e))) ∧ (σ' 15005 = (nI (txE x L e))) ∧ (TX 15600 σ' L x) ∧ (∀ a, (a < 15003 ∨ 15005 < a) → σ' a = σ a)) := hQ
  have hcFR_σ : ∀ a, (a < 15003 ∨ 15005 < a) → σ a = σ a := fun _ _ => rfl
  show G X w 1 0 [(0, .ref (w.1 15))] [] σ
  refine g_aload_n h dX7_advance_0 0 rfl ?_
  refine g_aload_n h dX7_advance_1 0 rfl ?_
  refine g_geti h dX7_advance_2 gX7_43 sc_15 rfl ?_
  refine g_top (y := (nI e)) (by first | exact ht15005_σ | assumption) ?_
  refine g_puti h dX7_advance_5 pX7_100 sc_15 rfl ?_
  refine g_nm (fun σ_1 eσ_1 => ?_)
  have eσ_1 : σ_1 = upd σ 15004 (nI e) := eσ_1
  have ht15002_σ_1 : σ_1 15002 = (nI L) := by rw [eσ_1, upd_ne (by first | omega | (simp only [vb] at *; omega))]; first | exact ht15002_σ | assumption
  have ht15005_σ_1 : σ_1 15005 = (nI e) := by rw [eσ_1, upd_ne (by first | omega | (simp only [vb] at *; omega))]; first | exact ht15005_σ | assumption
  have ht15004_σ_1 : σ_1 15004 = (nI e) := by rw [eσ_1]; exact upd_eq
  have hcTX_σ_1 : TX 15600 σ_1 L x := by rw [eσ_1]; exact TX.fr hcTX_σ (fun a ha hb => upd_ne (by first | omega | (simp only [vb] at *; omega)))
  have hcFR_σ_1 : ∀ a, (a < 15003 ∨ 15005 < a) → σ_1 a = σ a := by intro a ha; exact Eq.trans (b := σ a) (by rw [eσ_1, upd_ne (by first | omega | (simp only [vb] at *; omega))]) (hcFR_σ a ha)
  have lp8 : ∀ (k9 : Nat) (e1 : Nat) (τ : Mem), (e1 ≤ L) → (txS x L e = rnx (fun k => blC (x k)) L e1) → (τ 15002 = (nI L)) → (τ 15005 = (nI e)) → (τ 15004 = (nI e1)) → (TX 15600 τ L x) → (∀ a, (a < 15003 ∨ 15005 < a) → τ a = σ a) → L + 1 - e1 < k9 → G X w 1 8 [(0, .ref (w.1 15))] [] (τ) := by
    intro k9
    induction k9 with
    | zero => intro e1 τ he1 hS ht15002_τ ht15005_τ ht15004_τ hcTX_τ hcFR_τ hm9; exact absurd hm9 (Nat.not_lt_zero _)
    | succ k9 ih8 =>
      intro e1 τ he1 hS ht15002_τ ht15005_τ ht15004_τ hcTX_τ hcFR_τ hm8
      refine g_aload_n h dX7_advance_8 0 rfl ?_
      refine g_geti h dX7_advance_9 gX7_100 sc_15 rfl ?_
      refine g_top (y := (nI e1)) (by first | exact ht15004_τ | assumption) ?_
      refine g_aload_n h dX7_advance_12 0 rfl ?_
      refine g_geti h dX7_advance_13 gX7_25 sc_15 rfl ?_
      refine g_top (y := (nI L)) (by first | exact ht15002_τ | assumption) ?_
      refine g_icmpN_ge h dX7_advance_16 (by omega) (by omega) (fun c16 => ?_) (fun c16 => ?_)
      ·
        have hS2 : txS x L e = e1 := by rw [hS]; exact rnx_f (Or.inl (by omega))
        refine g_aload_n h dX7_advance_60 0 rfl ?_
        refine g_aload_n h dX7_advance_61 0 rfl ?_
        refine g_geti h dX7_advance_62 gX7_100 sc_15 rfl ?_
        refine g_top (y := (nI e1)) (by first | exact ht15004_τ | assumption) ?_
        refine g_puti h dX7_advance_65 pX7_43 sc_15 rfl ?_
        refine g_nm (fun σ_2 eσ_2 => ?_)
        have eσ_2 : σ_2 = upd (τ) 15005 (nI e1) := eσ_2
        have ht15002_σ_2 : σ_2 15002 = (nI L) := by rw [eσ_2, upd_ne (by first | omega | (simp only [vb] at *; omega))]; first | exact ht15002_τ | assumption
        have ht15005_σ_2 : σ_2 15005 = (nI e1) := by rw [eσ_2]; exact upd_eq
        have ht15004_σ_2 : σ_2 15004 = (nI e1) := by rw [eσ_2, upd_ne (by first | omega | (simp only [vb] at *; omega))]; first | exact ht15004_τ | assumption
        have hcTX_σ_2 : TX 15600 σ_2 L x := by rw [eσ_2]; exact TX.fr hcTX_τ (fun a ha hb => upd_ne (by first | omega | (simp only [vb] at *; omega)))
        have hcFR_σ_2 : ∀ a, (a < 15003 ∨ 15005 < a) → σ_2 a = σ a := by intro a ha; exact Eq.trans (b := (τ) a) (by rw [eσ_2, upd_ne (by first | omega | (simp only [vb] at *; omega))]) (hcFR_τ a ha)
        refine g_aload_n h dX7_advance_68 0 rfl ?_
        refine g_geti h dX7_advance_69 gX7_100 sc_15 rfl ?_
        refine g_top (y := (nI e1)) (by first | exact ht15004_σ_2 | assumption) ?_
        refine g_aload_n h dX7_advance_72 0 rfl ?_
        refine g_geti h dX7_advance_73 gX7_25 sc_15 rfl ?_
        refine g_top (y := (nI L)) (by first | exact ht15002_σ_2 | assumption) ?_
        refine g_icmpN_lt h dX7_advance_76 (by omega) (by omega) (fun c76 => ?_) (fun c76 => ?_)
        ·
          refine g_aload_n h dX7_advance_87 0 rfl ?_
          refine g_getr h dX7_advance_88 gX7_9 sc_15 rfl ?_
          refine g_aload_n h dX7_advance_91 0 rfl ?_
          refine g_geti h dX7_advance_92 gX7_100 sc_15 rfl ?_
          refine g_top (y := (nI e1)) (by first | exact ht15004_σ_2 | assumption) ?_
          refine g_bald h dX7_advance_95 sc_16 (by omega) ?_
          refine g_top (y := (by8 (x e1))) ((hcTX_σ_2 e1 (by omega)).2) ?_
          refine g_cspi (rest := []) h (c_isLetter hW (by8 (x e1)) ) lX7_isLetter mX7_103 (Nat.lt_of_lt_of_le (by decide) (Nat.le_refl _)) (by decide) rfl rfl rfl dX7_advance_96 ?_
          refine g_top (y := (b2i (leC (x e1)))) (congrArg b2i (by8_k (hcTX_σ_2 e1 (by omega)).1).2.1) ?_
          refine g_ifB_eq h dX7_advance_99 (fun c99 => ?_) (fun c99 => ?_)
          ·
            refine g_aload_n h dX7_advance_149 0 rfl ?_
            refine g_getr h dX7_advance_150 gX7_9 sc_15 rfl ?_
            refine g_aload_n h dX7_advance_153 0 rfl ?_
            refine g_geti h dX7_advance_154 gX7_100 sc_15 rfl ?_
            refine g_top (y := (nI e1)) (by first | exact ht15004_σ_2 | assumption) ?_
            refine g_bald h dX7_advance_157 sc_16 (by omega) ?_
            refine g_top (y := (by8 (x e1))) ((hcTX_σ_2 e1 (by omega)).2) ?_
            refine g_cspi (rest := []) h (c_isDigit hW (by8 (x e1)) ) lX7_isDigit mX7_107 (Nat.lt_of_lt_of_le (by decide) (Nat.le_refl _)) (by decide) rfl rfl rfl dX7_advance_158 ?_
            refine g_top (y := (b2i (dgC (x e1)))) (congrArg b2i (by8_k (hcTX_σ_2 e1 (by omega)).1).2.2.1) ?_
            refine g_ifB_eq h dX7_advance_161 (fun c161 => ?_) (fun c161 => ?_)
            ·
              have hl0 := tx_el (x := x) (L := L) (e := e) (by rw [hS2]; omega) (by rw [hS2, c99]; decide) (by rw [hS2, c161]; decide)
              rw [hS2] at hl0
              have hE3 := hl0.1
              have hx8 := (hcTX_τ e1 (by omega)).1
              refine g_aload_n h dX7_advance_228 0 rfl ?_
              refine g_aload_n h dX7_advance_229 0 rfl ?_
              refine g_getr h dX7_advance_230 gX7_9 sc_15 rfl ?_
              refine g_aload_n h dX7_advance_233 0 rfl ?_
              refine g_geti h dX7_advance_234 gX7_100 sc_15 rfl ?_
              refine g_top (y := (nI e1)) (by first | exact ht15004_σ_2 | assumption) ?_
              refine g_bald h dX7_advance_237 sc_16 (by omega) ?_
              refine g_top (y := (by8 (x e1))) ((hcTX_σ_2 e1 (by omega)).2) ?_
              refine g_bipush h dX7_advance_238 (by decide) ?_
              refine g_icmp_ne h dX7_advance_240 (fun c240 => ?_) (fun c240 => ?_)
              ·
                have hK : txK x L e = 4 := by rw [hl0.2, if_neg (fun q => c240 ((by8_eq hx8 (by decide)).mpr q))]
                refine g_iconst h dX7_advance_247 (by decide) ?_
                refine g_puti h dX7_advance_248 pX7_55 sc_15 rfl ?_
                refine g_nm (fun σ_3 eσ_3 => ?_)
                have eσ_3 : σ_3 = upd σ_2 15003 (nI 4) := eσ_3
                have ht15002_σ_3 : σ_3 15002 = (nI L) := by rw [eσ_3, upd_ne (by first | omega | (simp only [vb] at *; omega))]; first | exact ht15002_σ_2 | assumption
                have ht15005_σ_3 : σ_3 15005 = (nI e1) := by rw [eσ_3, upd_ne (by first | omega | (simp only [vb] at *; omega))]; first | exact ht15005_σ_2 | assumption
                have ht15004_σ_3 : σ_3 15004 = (nI e1) := by rw [eσ_3, upd_ne (by first | omega | (simp only [vb] at *; omega))]; first | exact ht15004_σ_2 | assumption
                have ht15003_σ_3 : σ_3 15003 = (nI 4) := by rw [eσ_3]; exact upd_eq
                have hcTX_σ_3 : TX 15600 σ_3 L x := by rw [eσ_3]; exact TX.fr hcTX_σ_2 (fun a ha hb => upd_ne (by first | omega | (simp only [vb] at *; omega)))
                have hcFR_σ_3 : ∀ a, (a < 15003 ∨ 15005 < a) → σ_3 a = σ a := by intro a ha; exact Eq.trans (b := σ_2 a) (by rw [eσ_3, upd_ne (by first | omega | (simp only [vb] at *; omega))]) (hcFR_σ_2 a ha)
                refine g_aload_n h dX7_advance_251 0 rfl ?_
                refine g_dup h dX7_advance_252 rfl ?_
                refine g_geti h dX7_advance_253 gX7_43 sc_15 rfl ?_
                refine g_top (y := (nI e1)) (by first | exact ht15005_σ_3 | assumption) ?_
                refine g_iconst h dX7_advance_256 (by decide) ?_
                refine g_iaddN h dX7_advance_257  ?_
                refine g_puti h dX7_advance_258 pX7_43 sc_15 rfl ?_
                refine g_nm (fun σ_4 eσ_4 => ?_)
                have eσ_4 : σ_4 = upd σ_3 15005 (nI (e1 + 1)) := eσ_4
                have ht15002_σ_4 : σ_4 15002 = (nI L) := by rw [eσ_4, upd_ne (by first | omega | (simp only [vb] at *; omega))]; first | exact ht15002_σ_3 | assumption
                have ht15005_σ_4 : σ_4 15005 = (nI (e1 + 1)) := by rw [eσ_4]; exact upd_eq
                have ht15004_σ_4 : σ_4 15004 = (nI e1) := by rw [eσ_4, upd_ne (by first | omega | (simp only [vb] at *; omega))]; first | exact ht15004_σ_3 | assumption
                have ht15003_σ_4 : σ_4 15003 = (nI 4) := by rw [eσ_4, upd_ne (by first | omega | (simp only [vb] at *; omega))]; first | exact ht15003_σ_3 | assumption
                have hcTX_σ_4 : TX 15600 σ_4 L x := by rw [eσ_4]; exact TX.fr hcTX_σ_3 (fun a ha hb => upd_ne (by first | omega | (simp only [vb] at *; omega)))
                have hcFR_σ_4 : ∀ a, (a < 15003 ∨ 15005 < a) → σ_4 a = σ a := by intro a ha; exact Eq.trans (b := σ_3 a) (by rw [eσ_4, upd_ne (by first | omega | (simp only [vb] at *; omega))]) (hcFR_σ_3 a ha)
                exact g_vret h hQ dX7_advance_261 rfl (by exact ⟨(by first | exact ht15002_σ_4 | assumption | fail), (by rw [hK]; exact ht15003_σ_4), (by rw [hS2]; exact ht15004_σ_4), (by rw [hE3]; exact ht15005_σ_4), (by first | exact hcTX_σ_4 | assumption | fail), (by exact hcFR_σ_4)⟩)
              ·
                have hK : txK x L e = 3 := by rw [hl0.2, if_pos ((by8_eq hx8 (by decide)).mp c240)]
                refine g_iconst h dX7_advance_243 (by decide) ?_
                refine g_goto h dX7_advance_244 ?_
                refine g_puti h dX7_advance_248 pX7_55 sc_15 rfl ?_
                refine g_nm (fun σ_5 eσ_5 => ?_)
                have eσ_5 : σ_5 = upd σ_2 15003 (nI 3) := eσ_5
                have ht15002_σ_5 : σ_5 15002 = (nI L) := by rw [eσ_5, upd_ne (by first | omega | (simp only [vb] at *; omega))]; first | exact ht15002_σ_2 | assumption
                have ht15005_σ_5 : σ_5 15005 = (nI e1) := by rw [eσ_5, upd_ne (by first | omega | (simp only [vb] at *; omega))]; first | exact ht15005_σ_2 | assumption
                have ht15004_σ_5 : σ_5 15004 = (nI e1) := by rw [eσ_5, upd_ne (by first | omega | (simp only [vb] at *; omega))]; first | exact ht15004_σ_2 | assumption
                have ht15003_σ_5 : σ_5 15003 = (nI 3) := by rw [eσ_5]; exact upd_eq
                have hcTX_σ_5 : TX 15600 σ_5 L x := by rw [eσ_5]; exact TX.fr hcTX_σ_2 (fun a ha hb => upd_ne (by first | omega | (simp only [vb] at *; omega)))
                have hcFR_σ_5 : ∀ a, (a < 15003 ∨ 15005 < a) → σ_5 a = σ a := by intro a ha; exact Eq.trans (b := σ_2 a) (by rw [eσ_5, upd_ne (by first | omega | (simp only [vb] at *; omega))]) (hcFR_σ_2 a ha)
                refine g_aload_n h dX7_advance_251 0 rfl ?_
                refine g_dup h dX7_advance_252 rfl ?_
                refine g_geti h dX7_advance_253 gX7_43 sc_15 rfl ?_
                refine g_top (y := (nI e1)) (by first | exact ht15005_σ_5 | assumption) ?_
                refine g_iconst h dX7_advance_256 (by decide) ?_
                refine g_iaddN h dX7_advance_257  ?_
                refine g_puti h dX7_advance_258 pX7_43 sc_15 rfl ?_
                refine g_nm (fun σ_6 eσ_6 => ?_)
                have eσ_6 : σ_6 = upd σ_5 15005 (nI (e1 + 1)) := eσ_6
                have ht15002_σ_6 : σ_6 15002 = (nI L) := by rw [eσ_6, upd_ne (by first | omega | (simp only [vb] at *; omega))]; first | exact ht15002_σ_5 | assumption
                have ht15005_σ_6 : σ_6 15005 = (nI (e1 + 1)) := by rw [eσ_6]; exact upd_eq
                have ht15004_σ_6 : σ_6 15004 = (nI e1) := by rw [eσ_6, upd_ne (by first | omega | (simp only [vb] at *; omega))]; first | exact ht15004_σ_5 | assumption
                have ht15003_σ_6 : σ_6 15003 = (nI 3) := by rw [eσ_6, upd_ne (by first | omega | (simp only [vb] at *; omega))]; first | exact ht15003_σ_5 | assumption
                have hcTX_σ_6 : TX 15600 σ_6 L x := by rw [eσ_6]; exact TX.fr hcTX_σ_5 (fun a ha hb => upd_ne (by first | omega | (simp only [vb] at *; omega)))
                have hcFR_σ_6 : ∀ a, (a < 15003 ∨ 15005 < a) → σ_6 a = σ a := by intro a ha; exact Eq.trans (b := σ_5 a) (by rw [eσ_6, upd_ne (by first | omega | (simp only [vb] at *; omega))]) (hcFR_σ_5 a ha)
                exact g_vret h hQ dX7_advance_261 rfl (by exact ⟨(by first | exact ht15002_σ_6 | assumption | fail), (by rw [hK]; exact ht15003_σ_6), (by rw [hS2]; exact ht15004_σ_6), (by rw [hE3]; exact ht15005_σ_6), (by first | exact hcTX_σ_6 | assumption | fail), (by exact hcFR_σ_6)⟩)
            ·
              have lp164 : ∀ (k9 : Nat) (e2 : Nat) (τ2 : Mem), (e2 ≤ L) → (e1 ≤ e2) → (txE x L e = rnx (fun k => dgC (x k)) L e2) → (τ2 15002 = (nI L)) → (τ2 15005 = (nI e2)) → (τ2 15004 = (nI e1)) → (TX 15600 τ2 L x) → (∀ a, (a < 15003 ∨ 15005 < a) → τ2 a = σ a) → L + 1 - e2 < k9 → G X w 1 164 [(0, .ref (w.1 15))] [] (τ2) := by
                intro k9
                induction k9 with
                | zero => intro e2 τ2 he2 hle hE ht15002_τ2 ht15005_τ2 ht15004_τ2 hcTX_τ2 hcFR_τ2 hm9; exact absurd hm9 (Nat.not_lt_zero _)
                | succ k9 ih164 =>
                  intro e2 τ2 he2 hle hE ht15002_τ2 ht15005_τ2 ht15004_τ2 hcTX_τ2 hcFR_τ2 hm164
                  refine g_aload_n h dX7_advance_164 0 rfl ?_
                  refine g_geti h dX7_advance_165 gX7_43 sc_15 rfl ?_
                  refine g_top (y := (nI e2)) (by first | exact ht15005_τ2 | assumption) ?_
                  refine g_aload_n h dX7_advance_168 0 rfl ?_
                  refine g_geti h dX7_advance_169 gX7_25 sc_15 rfl ?_
                  refine g_top (y := (nI L)) (by first | exact ht15002_τ2 | assumption) ?_
                  refine g_icmpN_ge h dX7_advance_172 (by omega) (by omega) (fun c172 => ?_) (fun c172 => ?_)
                  ·
                    have hE3 : txE x L e = e2 := by rw [hE]; exact rnx_f (Or.inl (by omega))
                    have hK0 := tx_dk (x := x) (L := L) (e := e) (by rw [hS2]; omega) (by rw [hS2, c99]; decide) (by rw [hS2]; exact c161)
                    rw [hE3, hS2] at hK0
                    refine g_aload_n h dX7_advance_203 0 rfl ?_
                    refine g_aload_n h dX7_advance_204 0 rfl ?_
                    refine g_geti h dX7_advance_205 gX7_43 sc_15 rfl ?_
                    refine g_top (y := (nI e2)) (by first | exact ht15005_τ2 | assumption) ?_
                    refine g_aload_n h dX7_advance_208 0 rfl ?_
                    refine g_geti h dX7_advance_209 gX7_100 sc_15 rfl ?_
                    refine g_top (y := (nI e1)) (by first | exact ht15004_τ2 | assumption) ?_
                    refine g_isubN h dX7_advance_212 (by omega) ?_
                    refine g_iconst h dX7_advance_213 (by decide) ?_
                    refine g_icmpN_gt h dX7_advance_214 (by omega) (by omega) (fun c214 => ?_) (fun c214 => ?_)
                    ·
                      have hK : txK x L e = 4 := by rw [hK0, if_neg (by omega)]
                      refine g_iconst h dX7_advance_221 (by decide) ?_
                      refine g_puti h dX7_advance_222 pX7_55 sc_15 rfl ?_
                      refine g_nm (fun σ_7 eσ_7 => ?_)
                      have eσ_7 : σ_7 = upd (τ2) 15003 (nI 4) := eσ_7
                      have ht15002_σ_7 : σ_7 15002 = (nI L) := by rw [eσ_7, upd_ne (by first | omega | (simp only [vb] at *; omega))]; first | exact ht15002_τ2 | assumption
                      have ht15005_σ_7 : σ_7 15005 = (nI e2) := by rw [eσ_7, upd_ne (by first | omega | (simp only [vb] at *; omega))]; first | exact ht15005_τ2 | assumption
                      have ht15004_σ_7 : σ_7 15004 = (nI e1) := by rw [eσ_7, upd_ne (by first | omega | (simp only [vb] at *; omega))]; first | exact ht15004_τ2 | assumption
                      have ht15003_σ_7 : σ_7 15003 = (nI 4) := by rw [eσ_7]; exact upd_eq
                      have hcTX_σ_7 : TX 15600 σ_7 L x := by rw [eσ_7]; exact TX.fr hcTX_τ2 (fun a ha hb => upd_ne (by first | omega | (simp only [vb] at *; omega)))
                      have hcFR_σ_7 : ∀ a, (a < 15003 ∨ 15005 < a) → σ_7 a = σ a := by intro a ha; exact Eq.trans (b := (τ2) a) (by rw [eσ_7, upd_ne (by first | omega | (simp only [vb] at *; omega))]) (hcFR_τ2 a ha)
                      refine g_goto h dX7_advance_225 ?_
                      exact g_vret h hQ dX7_advance_261 rfl (by exact ⟨(by first | exact ht15002_σ_7 | assumption | fail), (by rw [hK]; exact ht15003_σ_7), (by rw [hS2]; exact ht15004_σ_7), (by rw [hE3]; exact ht15005_σ_7), (by first | exact hcTX_σ_7 | assumption | fail), (by exact hcFR_σ_7)⟩)
                    ·
                      have hK : txK x L e = 2 := by rw [hK0, if_pos (by omega)]
                      refine g_iconst h dX7_advance_217 (by decide) ?_
                      refine g_goto h dX7_advance_218 ?_
                      refine g_puti h dX7_advance_222 pX7_55 sc_15 rfl ?_
                      refine g_nm (fun σ_8 eσ_8 => ?_)
                      have eσ_8 : σ_8 = upd (τ2) 15003 (nI 2) := eσ_8
                      have ht15002_σ_8 : σ_8 15002 = (nI L) := by rw [eσ_8, upd_ne (by first | omega | (simp only [vb] at *; omega))]; first | exact ht15002_τ2 | assumption
                      have ht15005_σ_8 : σ_8 15005 = (nI e2) := by rw [eσ_8, upd_ne (by first | omega | (simp only [vb] at *; omega))]; first | exact ht15005_τ2 | assumption
                      have ht15004_σ_8 : σ_8 15004 = (nI e1) := by rw [eσ_8, upd_ne (by first | omega | (simp only [vb] at *; omega))]; first | exact ht15004_τ2 | assumption
                      have ht15003_σ_8 : σ_8 15003 = (nI 2) := by rw [eσ_8]; exact upd_eq
                      have hcTX_σ_8 : TX 15600 σ_8 L x := by rw [eσ_8]; exact TX.fr hcTX_τ2 (fun a ha hb => upd_ne (by first | omega | (simp only [vb] at *; omega)))
                      have hcFR_σ_8 : ∀ a, (a < 15003 ∨ 15005 < a) → σ_8 a = σ a := by intro a ha; exact Eq.trans (b := (τ2) a) (by rw [eσ_8, upd_ne (by first | omega | (simp only [vb] at *; omega))]) (hcFR_τ2 a ha)
                      refine g_goto h dX7_advance_225 ?_
                      exact g_vret h hQ dX7_advance_261 rfl (by exact ⟨(by first | exact ht15002_σ_8 | assumption | fail), (by rw [hK]; exact ht15003_σ_8), (by rw [hS2]; exact ht15004_σ_8), (by rw [hE3]; exact ht15005_σ_8), (by first | exact hcTX_σ_8 | assumption | fail), (by exact hcFR_σ_8)⟩)
                  ·
                    refine g_aload_n h dX7_advance_175 0 rfl ?_
                    refine g_getr h dX7_advance_176 gX7_9 sc_15 rfl ?_
                    refine g_aload_n h dX7_advance_179 0 rfl ?_
                    refine g_geti h dX7_advance_180 gX7_43 sc_15 rfl ?_
                    refine g_top (y := (nI e2)) (by first | exact ht15005_τ2 | assumption) ?_
                    refine g_bald h dX7_advance_183 sc_16 (by omega) ?_
                    refine g_top (y := (by8 (x e2))) ((hcTX_τ2 e2 (by omega)).2) ?_
                    refine g_cspi (rest := []) h (c_isDigit hW (by8 (x e2)) ) lX7_isDigit mX7_107 (Nat.lt_of_lt_of_le (by decide) (Nat.le_refl _)) (by decide) rfl rfl rfl dX7_advance_184 ?_
                    refine g_top (y := (b2i (dgC (x e2)))) (congrArg b2i (by8_k (hcTX_τ2 e2 (by omega)).1).2.2.1) ?_
                    refine g_ifB_eq h dX7_advance_187 (fun c187 => ?_) (fun c187 => ?_)
                    ·
                      have hE3 : txE x L e = e2 := by rw [hE]; exact rnx_f (Or.inr c187)
                      have hK0 := tx_dk (x := x) (L := L) (e := e) (by rw [hS2]; omega) (by rw [hS2, c99]; decide) (by rw [hS2]; exact c161)
                      rw [hE3, hS2] at hK0
                      refine g_aload_n h dX7_advance_203 0 rfl ?_
                      refine g_aload_n h dX7_advance_204 0 rfl ?_
                      refine g_geti h dX7_advance_205 gX7_43 sc_15 rfl ?_
                      refine g_top (y := (nI e2)) (by first | exact ht15005_τ2 | assumption) ?_
                      refine g_aload_n h dX7_advance_208 0 rfl ?_
                      refine g_geti h dX7_advance_209 gX7_100 sc_15 rfl ?_
                      refine g_top (y := (nI e1)) (by first | exact ht15004_τ2 | assumption) ?_
                      refine g_isubN h dX7_advance_212 (by omega) ?_
                      refine g_iconst h dX7_advance_213 (by decide) ?_
                      refine g_icmpN_gt h dX7_advance_214 (by omega) (by omega) (fun c214 => ?_) (fun c214 => ?_)
                      ·
                        have hK : txK x L e = 4 := by rw [hK0, if_neg (by omega)]
                        refine g_iconst h dX7_advance_221 (by decide) ?_
                        refine g_puti h dX7_advance_222 pX7_55 sc_15 rfl ?_
                        refine g_nm (fun σ_9 eσ_9 => ?_)
                        have eσ_9 : σ_9 = upd (τ2) 15003 (nI 4) := eσ_9
                        have ht15002_σ_9 : σ_9 15002 = (nI L) := by rw [eσ_9, upd_ne (by first | omega | (simp only [vb] at *; omega))]; first | exact ht15002_τ2 | assumption
                        have ht15005_σ_9 : σ_9 15005 = (nI e2) := by rw [eσ_9, upd_ne (by first | omega | (simp only [vb] at *; omega))]; first | exact ht15005_τ2 | assumption
                        have ht15004_σ_9 : σ_9 15004 = (nI e1) := by rw [eσ_9, upd_ne (by first | omega | (simp only [vb] at *; omega))]; first | exact ht15004_τ2 | assumption
                        have ht15003_σ_9 : σ_9 15003 = (nI 4) := by rw [eσ_9]; exact upd_eq
                        have hcTX_σ_9 : TX 15600 σ_9 L x := by rw [eσ_9]; exact TX.fr hcTX_τ2 (fun a ha hb => upd_ne (by first | omega | (simp only [vb] at *; omega)))
                        have hcFR_σ_9 : ∀ a, (a < 15003 ∨ 15005 < a) → σ_9 a = σ a := by intro a ha; exact Eq.trans (b := (τ2) a) (by rw [eσ_9, upd_ne (by first | omega | (simp only [vb] at *; omega))]) (hcFR_τ2 a ha)
                        refine g_goto h dX7_advance_225 ?_
                        exact g_vret h hQ dX7_advance_261 rfl (by exact ⟨(by first | exact ht15002_σ_9 | assumption | fail), (by rw [hK]; exact ht15003_σ_9), (by rw [hS2]; exact ht15004_σ_9), (by rw [hE3]; exact ht15005_σ_9), (by first | exact hcTX_σ_9 | assumption | fail), (by exact hcFR_σ_9)⟩)
                      ·
                        have hK : txK x L e = 2 := by rw [hK0, if_pos (by omega)]
                        refine g_iconst h dX7_advance_217 (by decide) ?_
                        refine g_goto h dX7_advance_218 ?_
                        refine g_puti h dX7_advance_222 pX7_55 sc_15 rfl ?_
                        refine g_nm (fun σ_10 eσ_10 => ?_)
                        have eσ_10 : σ_10 = upd (τ2) 15003 (nI 2) := eσ_10
                        have ht15002_σ_10 : σ_10 15002 = (nI L) := by rw [eσ_10, upd_ne (by first | omega | (simp only [vb] at *; omega))]; first | exact ht15002_τ2 | assumption
                        have ht15005_σ_10 : σ_10 15005 = (nI e2) := by rw [eσ_10, upd_ne (by first | omega | (simp only [vb] at *; omega))]; first | exact ht15005_τ2 | assumption
                        have ht15004_σ_10 : σ_10 15004 = (nI e1) := by rw [eσ_10, upd_ne (by first | omega | (simp only [vb] at *; omega))]; first | exact ht15004_τ2 | assumption
                        have ht15003_σ_10 : σ_10 15003 = (nI 2) := by rw [eσ_10]; exact upd_eq
                        have hcTX_σ_10 : TX 15600 σ_10 L x := by rw [eσ_10]; exact TX.fr hcTX_τ2 (fun a ha hb => upd_ne (by first | omega | (simp only [vb] at *; omega)))
                        have hcFR_σ_10 : ∀ a, (a < 15003 ∨ 15005 < a) → σ_10 a = σ a := by intro a ha; exact Eq.trans (b := (τ2) a) (by rw [eσ_10, upd_ne (by first | omega | (simp only [vb] at *; omega))]) (hcFR_τ2 a ha)
                        refine g_goto h dX7_advance_225 ?_
                        exact g_vret h hQ dX7_advance_261 rfl (by exact ⟨(by first | exact ht15002_σ_10 | assumption | fail), (by rw [hK]; exact ht15003_σ_10), (by rw [hS2]; exact ht15004_σ_10), (by rw [hE3]; exact ht15005_σ_10), (by first | exact hcTX_σ_10 | assumption | fail), (by exact hcFR_σ_10)⟩)
                    ·
                      refine g_aload_n h dX7_advance_190 0 rfl ?_
                      refine g_dup h dX7_advance_191 rfl ?_
                      refine g_geti h dX7_advance_192 gX7_43 sc_15 rfl ?_
                      refine g_top (y := (nI e2)) (by first | exact ht15005_τ2 | assumption) ?_
                      refine g_iconst h dX7_advance_195 (by decide) ?_
                      refine g_iaddN h dX7_advance_196  ?_
                      refine g_puti h dX7_advance_197 pX7_43 sc_15 rfl ?_
                      refine g_nm (fun σ_11 eσ_11 => ?_)
                      have eσ_11 : σ_11 = upd (τ2) 15005 (nI (e2 + 1)) := eσ_11
                      have ht15002_σ_11 : σ_11 15002 = (nI L) := by rw [eσ_11, upd_ne (by first | omega | (simp only [vb] at *; omega))]; first | exact ht15002_τ2 | assumption
                      have ht15005_σ_11 : σ_11 15005 = (nI (e2 + 1)) := by rw [eσ_11]; exact upd_eq
                      have ht15004_σ_11 : σ_11 15004 = (nI e1) := by rw [eσ_11, upd_ne (by first | omega | (simp only [vb] at *; omega))]; first | exact ht15004_τ2 | assumption
                      have hcTX_σ_11 : TX 15600 σ_11 L x := by rw [eσ_11]; exact TX.fr hcTX_τ2 (fun a ha hb => upd_ne (by first | omega | (simp only [vb] at *; omega)))
                      have hcFR_σ_11 : ∀ a, (a < 15003 ∨ 15005 < a) → σ_11 a = σ a := by intro a ha; exact Eq.trans (b := (τ2) a) (by rw [eσ_11, upd_ne (by first | omega | (simp only [vb] at *; omega))]) (hcFR_τ2 a ha)
                      refine g_goto h dX7_advance_200 ?_
                      exact ih164 (e2 + 1) σ_11 (by omega) (by omega) (by rw [hE]; exact rnx_t (by omega) c187) (by first | exact ht15002_σ_11 | assumption | fail | fail) (by first | exact ht15005_σ_11 | assumption | fail | fail) (by first | exact ht15004_σ_11 | assumption | fail | fail) (by first | exact hcTX_σ_11 | assumption | fail | fail) (by first | exact hcFR_σ_11 | assumption | fail | fail) (by omega)
              exact lp164 (_) e1 σ_2 (by omega) (by omega) (by rw [tx_dg (x := x) (L := L) (e := e) (by rw [hS2]; omega) (by rw [hS2, c99]; decide) (by rw [hS2]; exact c161), hS2]) (by first | exact ht15002_σ_2 | assumption | fail | fail) (by first | exact ht15005_σ_2 | assumption | fail | fail) (by first | exact ht15004_σ_2 | assumption | fail | fail) (by first | exact hcTX_σ_2 | assumption | fail | fail) (by first | exact hcFR_σ_2 | assumption | fail | fail) (Nat.lt_succ_self _)
          ·
            have lp102 : ∀ (k9 : Nat) (e2 : Nat) (τ2 : Mem), (e2 ≤ L) → (e1 ≤ e2) → (txE x L e = rnx (fun k => leC (x k)) L e2) → (τ2 15002 = (nI L)) → (τ2 15005 = (nI e2)) → (τ2 15004 = (nI e1)) → (TX 15600 τ2 L x) → (∀ a, (a < 15003 ∨ 15005 < a) → τ2 a = σ a) → L + 1 - e2 < k9 → G X w 1 102 [(0, .ref (w.1 15))] [] (τ2) := by
              intro k9
              induction k9 with
              | zero => intro e2 τ2 he2 hle hE ht15002_τ2 ht15005_τ2 ht15004_τ2 hcTX_τ2 hcFR_τ2 hm9; exact absurd hm9 (Nat.not_lt_zero _)
              | succ k9 ih102 =>
                intro e2 τ2 he2 hle hE ht15002_τ2 ht15005_τ2 ht15004_τ2 hcTX_τ2 hcFR_τ2 hm102
                refine g_aload_n h dX7_advance_102 0 rfl ?_
                refine g_geti h dX7_advance_103 gX7_43 sc_15 rfl ?_
                refine g_top (y := (nI e2)) (by first | exact ht15005_τ2 | assumption) ?_
                refine g_aload_n h dX7_advance_106 0 rfl ?_
                refine g_geti h dX7_advance_107 gX7_25 sc_15 rfl ?_
                refine g_top (y := (nI L)) (by first | exact ht15002_τ2 | assumption) ?_
                refine g_icmpN_ge h dX7_advance_110 (by omega) (by omega) (fun c110 => ?_) (fun c110 => ?_)
                ·
                  have hE3 : txE x L e = e2 := by rw [hE]; exact rnx_f (Or.inl (by omega))
                  have hK : txK x L e = 1 := (tx_le (x := x) (L := L) (e := e) (by rw [hS2]; omega) (by rw [hS2]; exact c99)).2
                  refine g_aload_n h dX7_advance_141 0 rfl ?_
                  refine g_iconst h dX7_advance_142 (by decide) ?_
                  refine g_puti h dX7_advance_143 pX7_55 sc_15 rfl ?_
                  refine g_nm (fun σ_12 eσ_12 => ?_)
                  have eσ_12 : σ_12 = upd (τ2) 15003 (nI 1) := eσ_12
                  have ht15002_σ_12 : σ_12 15002 = (nI L) := by rw [eσ_12, upd_ne (by first | omega | (simp only [vb] at *; omega))]; first | exact ht15002_τ2 | assumption
                  have ht15005_σ_12 : σ_12 15005 = (nI e2) := by rw [eσ_12, upd_ne (by first | omega | (simp only [vb] at *; omega))]; first | exact ht15005_τ2 | assumption
                  have ht15004_σ_12 : σ_12 15004 = (nI e1) := by rw [eσ_12, upd_ne (by first | omega | (simp only [vb] at *; omega))]; first | exact ht15004_τ2 | assumption
                  have ht15003_σ_12 : σ_12 15003 = (nI 1) := by rw [eσ_12]; exact upd_eq
                  have hcTX_σ_12 : TX 15600 σ_12 L x := by rw [eσ_12]; exact TX.fr hcTX_τ2 (fun a ha hb => upd_ne (by first | omega | (simp only [vb] at *; omega)))
                  have hcFR_σ_12 : ∀ a, (a < 15003 ∨ 15005 < a) → σ_12 a = σ a := by intro a ha; exact Eq.trans (b := (τ2) a) (by rw [eσ_12, upd_ne (by first | omega | (simp only [vb] at *; omega))]) (hcFR_τ2 a ha)
                  refine g_goto h dX7_advance_146 ?_
                  exact g_vret h hQ dX7_advance_261 rfl (by exact ⟨(by first | exact ht15002_σ_12 | assumption | fail), (by rw [hK]; exact ht15003_σ_12), (by rw [hS2]; exact ht15004_σ_12), (by rw [hE3]; exact ht15005_σ_12), (by first | exact hcTX_σ_12 | assumption | fail), (by exact hcFR_σ_12)⟩)
                ·
                  refine g_aload_n h dX7_advance_113 0 rfl ?_
                  refine g_getr h dX7_advance_114 gX7_9 sc_15 rfl ?_
                  refine g_aload_n h dX7_advance_117 0 rfl ?_
                  refine g_geti h dX7_advance_118 gX7_43 sc_15 rfl ?_
                  refine g_top (y := (nI e2)) (by first | exact ht15005_τ2 | assumption) ?_
                  refine g_bald h dX7_advance_121 sc_16 (by omega) ?_
                  refine g_top (y := (by8 (x e2))) ((hcTX_τ2 e2 (by omega)).2) ?_
                  refine g_cspi (rest := []) h (c_isLetter hW (by8 (x e2)) ) lX7_isLetter mX7_103 (Nat.lt_of_lt_of_le (by decide) (Nat.le_refl _)) (by decide) rfl rfl rfl dX7_advance_122 ?_
                  refine g_top (y := (b2i (leC (x e2)))) (congrArg b2i (by8_k (hcTX_τ2 e2 (by omega)).1).2.1) ?_
                  refine g_ifB_eq h dX7_advance_125 (fun c125 => ?_) (fun c125 => ?_)
                  ·
                    have hE3 : txE x L e = e2 := by rw [hE]; exact rnx_f (Or.inr c125)
                    have hK : txK x L e = 1 := (tx_le (x := x) (L := L) (e := e) (by rw [hS2]; omega) (by rw [hS2]; exact c99)).2
                    refine g_aload_n h dX7_advance_141 0 rfl ?_
                    refine g_iconst h dX7_advance_142 (by decide) ?_
                    refine g_puti h dX7_advance_143 pX7_55 sc_15 rfl ?_
                    refine g_nm (fun σ_13 eσ_13 => ?_)
                    have eσ_13 : σ_13 = upd (τ2) 15003 (nI 1) := eσ_13
                    have ht15002_σ_13 : σ_13 15002 = (nI L) := by rw [eσ_13, upd_ne (by first | omega | (simp only [vb] at *; omega))]; first | exact ht15002_τ2 | assumption
                    have ht15005_σ_13 : σ_13 15005 = (nI e2) := by rw [eσ_13, upd_ne (by first | omega | (simp only [vb] at *; omega))]; first | exact ht15005_τ2 | assumption
                    have ht15004_σ_13 : σ_13 15004 = (nI e1) := by rw [eσ_13, upd_ne (by first | omega | (simp only [vb] at *; omega))]; first | exact ht15004_τ2 | assumption
                    have ht15003_σ_13 : σ_13 15003 = (nI 1) := by rw [eσ_13]; exact upd_eq
                    have hcTX_σ_13 : TX 15600 σ_13 L x := by rw [eσ_13]; exact TX.fr hcTX_τ2 (fun a ha hb => upd_ne (by first | omega | (simp only [vb] at *; omega)))
                    have hcFR_σ_13 : ∀ a, (a < 15003 ∨ 15005 < a) → σ_13 a = σ a := by intro a ha; exact Eq.trans (b := (τ2) a) (by rw [eσ_13, upd_ne (by first | omega | (simp only [vb] at *; omega))]) (hcFR_τ2 a ha)
                    refine g_goto h dX7_advance_146 ?_
                    exact g_vret h hQ dX7_advance_261 rfl (by exact ⟨(by first | exact ht15002_σ_13 | assumption | fail), (by rw [hK]; exact ht15003_σ_13), (by rw [hS2]; exact ht15004_σ_13), (by rw [hE3]; exact ht15005_σ_13), (by first | exact hcTX_σ_13 | assumption | fail), (by exact hcFR_σ_13)⟩)
                  ·
                    refine g_aload_n h dX7_advance_128 0 rfl ?_
                    refine g_dup h dX7_advance_129 rfl ?_
                    refine g_geti h dX7_advance_130 gX7_43 sc_15 rfl ?_
                    refine g_top (y := (nI e2)) (by first | exact ht15005_τ2 | assumption) ?_
                    refine g_iconst h dX7_advance_133 (by decide) ?_
                    refine g_iaddN h dX7_advance_134  ?_
                    refine g_puti h dX7_advance_135 pX7_43 sc_15 rfl ?_
                    refine g_nm (fun σ_14 eσ_14 => ?_)
                    have eσ_14 : σ_14 = upd (τ2) 15005 (nI (e2 + 1)) := eσ_14
                    have ht15002_σ_14 : σ_14 15002 = (nI L) := by rw [eσ_14, upd_ne (by first | omega | (simp only [vb] at *; omega))]; first | exact ht15002_τ2 | assumption
                    have ht15005_σ_14 : σ_14 15005 = (nI (e2 + 1)) := by rw [eσ_14]; exact upd_eq
                    have ht15004_σ_14 : σ_14 15004 = (nI e1) := by rw [eσ_14, upd_ne (by first | omega | (simp only [vb] at *; omega))]; first | exact ht15004_τ2 | assumption
                    have hcTX_σ_14 : TX 15600 σ_14 L x := by rw [eσ_14]; exact TX.fr hcTX_τ2 (fun a ha hb => upd_ne (by first | omega | (simp only [vb] at *; omega)))
                    have hcFR_σ_14 : ∀ a, (a < 15003 ∨ 15005 < a) → σ_14 a = σ a := by intro a ha; exact Eq.trans (b := (τ2) a) (by rw [eσ_14, upd_ne (by first | omega | (simp only [vb] at *; omega))]) (hcFR_τ2 a ha)
                    refine g_goto h dX7_advance_138 ?_
                    exact ih102 (e2 + 1) σ_14 (by omega) (by omega) (by rw [hE]; exact rnx_t (by omega) c125) (by first | exact ht15002_σ_14 | assumption | fail | fail) (by first | exact ht15005_σ_14 | assumption | fail | fail) (by first | exact ht15004_σ_14 | assumption | fail | fail) (by first | exact hcTX_σ_14 | assumption | fail | fail) (by first | exact hcFR_σ_14 | assumption | fail | fail) (by omega)
            exact lp102 (_) e1 σ_2 (by omega) (by omega) (by rw [(tx_le (x := x) (L := L) (e := e) (by rw [hS2]; omega) (by rw [hS2]; exact c99)).1, hS2]) (by first | exact ht15002_σ_2 | assumption | fail | fail) (by first | exact ht15005_σ_2 | assumption | fail | fail) (by first | exact ht15004_σ_2 | assumption | fail | fail) (by first | exact hcTX_σ_2 | assumption | fail | fail) (by first | exact hcFR_σ_2 | assumption | fail | fail) (Nat.lt_succ_self _)
        ·
          have hx9 : L ≤ txS x L e := by rw [hS2]; omega
          have hK : txK x L e = 0 := (tx_end hx9).2
          have hE3 : txE x L e = e1 := by rw [(tx_end hx9).1, hS2]
          refine g_aload_n h dX7_advance_79 0 rfl ?_
          refine g_iconst h dX7_advance_80 (by decide) ?_
          refine g_puti h dX7_advance_81 pX7_55 sc_15 rfl ?_
          refine g_nm (fun σ_15 eσ_15 => ?_)
          have eσ_15 : σ_15 = upd σ_2 15003 (nI 0) := eσ_15
          have ht15002_σ_15 : σ_15 15002 = (nI L) := by rw [eσ_15, upd_ne (by first | omega | (simp only [vb] at *; omega))]; first | exact ht15002_σ_2 | assumption
          have ht15005_σ_15 : σ_15 15005 = (nI e1) := by rw [eσ_15, upd_ne (by first | omega | (simp only [vb] at *; omega))]; first | exact ht15005_σ_2 | assumption
          have ht15004_σ_15 : σ_15 15004 = (nI e1) := by rw [eσ_15, upd_ne (by first | omega | (simp only [vb] at *; omega))]; first | exact ht15004_σ_2 | assumption
          have ht15003_σ_15 : σ_15 15003 = (nI 0) := by rw [eσ_15]; exact upd_eq
          have hcTX_σ_15 : TX 15600 σ_15 L x := by rw [eσ_15]; exact TX.fr hcTX_σ_2 (fun a ha hb => upd_ne (by first | omega | (simp only [vb] at *; omega)))
          have hcFR_σ_15 : ∀ a, (a < 15003 ∨ 15005 < a) → σ_15 a = σ a := by intro a ha; exact Eq.trans (b := σ_2 a) (by rw [eσ_15, upd_ne (by first | omega | (simp only [vb] at *; omega))]) (hcFR_σ_2 a ha)
          refine g_goto h dX7_advance_84 ?_
          exact g_vret h hQ dX7_advance_261 rfl (by exact ⟨(by first | exact ht15002_σ_15 | assumption | fail), (by rw [hK]; exact ht15003_σ_15), (by rw [hS2]; exact ht15004_σ_15), (by rw [hE3]; exact ht15005_σ_15), (by first | exact hcTX_σ_15 | assumption | fail), (by exact hcFR_σ_15)⟩)
      ·
        refine g_aload_n h dX7_advance_19 0 rfl ?_
        refine g_getr h dX7_advance_20 gX7_9 sc_15 rfl ?_
        refine g_aload_n h dX7_advance_23 0 rfl ?_
        refine g_geti h dX7_advance_24 gX7_100 sc_15 rfl ?_
        refine g_top (y := (nI e1)) (by first | exact ht15004_τ | assumption) ?_
        refine g_bald h dX7_advance_27 sc_16 (by omega) ?_
        refine g_top (y := (by8 (x e1))) ((hcTX_τ e1 (by omega)).2) ?_
        refine g_bipush h dX7_advance_28 (by decide) ?_
        refine g_icmp_eq h dX7_advance_30 (fun c30 => ?_) (fun c30 => ?_)
        ·
          have hbl : e1 < L ∧ blC (x e1) = true := by first | exact ⟨by omega, cb_1 (hcTX_τ e1 (by omega)).1 c30⟩ | exact ⟨by omega, cb_2 (hcTX_τ e1 (by omega)).1 c44⟩
          refine g_aload_n h dX7_advance_47 0 rfl ?_
          refine g_dup h dX7_advance_48 rfl ?_
          refine g_geti h dX7_advance_49 gX7_100 sc_15 rfl ?_
          refine g_top (y := (nI e1)) (by first | exact ht15004_τ | assumption) ?_
          refine g_iconst h dX7_advance_52 (by decide) ?_
          refine g_iaddN h dX7_advance_53  ?_
          refine g_puti h dX7_advance_54 pX7_100 sc_15 rfl ?_
          refine g_nm (fun σ_16 eσ_16 => ?_)
          have eσ_16 : σ_16 = upd (τ) 15004 (nI (e1 + 1)) := eσ_16
          have ht15002_σ_16 : σ_16 15002 = (nI L) := by rw [eσ_16, upd_ne (by first | omega | (simp only [vb] at *; omega))]; first | exact ht15002_τ | assumption
          have ht15005_σ_16 : σ_16 15005 = (nI e) := by rw [eσ_16, upd_ne (by first | omega | (simp only [vb] at *; omega))]; first | exact ht15005_τ | assumption
          have ht15004_σ_16 : σ_16 15004 = (nI (e1 + 1)) := by rw [eσ_16]; exact upd_eq
          have hcTX_σ_16 : TX 15600 σ_16 L x := by rw [eσ_16]; exact TX.fr hcTX_τ (fun a ha hb => upd_ne (by first | omega | (simp only [vb] at *; omega)))
          have hcFR_σ_16 : ∀ a, (a < 15003 ∨ 15005 < a) → σ_16 a = σ a := by intro a ha; exact Eq.trans (b := (τ) a) (by rw [eσ_16, upd_ne (by first | omega | (simp only [vb] at *; omega))]) (hcFR_τ a ha)
          refine g_goto h dX7_advance_57 ?_
          exact ih8 (e1 + 1) σ_16 (by omega) (by rw [hS]; exact rnx_t hbl.1 hbl.2) (by first | exact ht15002_σ_16 | assumption | fail | fail) (by first | exact ht15005_σ_16 | assumption | fail | fail) (by first | exact ht15004_σ_16 | assumption | fail | fail) (by first | exact hcTX_σ_16 | assumption | fail | fail) (by first | exact hcFR_σ_16 | assumption | fail | fail) (by omega)
        ·
          refine g_aload_n h dX7_advance_33 0 rfl ?_
          refine g_getr h dX7_advance_34 gX7_9 sc_15 rfl ?_
          refine g_aload_n h dX7_advance_37 0 rfl ?_
          refine g_geti h dX7_advance_38 gX7_100 sc_15 rfl ?_
          refine g_top (y := (nI e1)) (by first | exact ht15004_τ | assumption) ?_
          refine g_bald h dX7_advance_41 sc_16 (by omega) ?_
          refine g_top (y := (by8 (x e1))) ((hcTX_τ e1 (by omega)).2) ?_
          refine g_bipush h dX7_advance_42 (by decide) ?_
          refine g_icmp_ne h dX7_advance_44 (fun c44 => ?_) (fun c44 => ?_)
          ·
            have hS2 : txS x L e = e1 := by rw [hS]; exact rnx_f (Or.inr (cb_n (hcTX_τ e1 (by omega)).1 c30 c44))
            refine g_aload_n h dX7_advance_60 0 rfl ?_
            refine g_aload_n h dX7_advance_61 0 rfl ?_
            refine g_geti h dX7_advance_62 gX7_100 sc_15 rfl ?_
            refine g_top (y := (nI e1)) (by first | exact ht15004_τ | assumption) ?_
            refine g_puti h dX7_advance_65 pX7_43 sc_15 rfl ?_
            refine g_nm (fun σ_17 eσ_17 => ?_)
            have eσ_17 : σ_17 = upd (τ) 15005 (nI e1) := eσ_17
            have ht15002_σ_17 : σ_17 15002 = (nI L) := by rw [eσ_17, upd_ne (by first | omega | (simp only [vb] at *; omega))]; first | exact ht15002_τ | assumption
            have ht15005_σ_17 : σ_17 15005 = (nI e1) := by rw [eσ_17]; exact upd_eq
            have ht15004_σ_17 : σ_17 15004 = (nI e1) := by rw [eσ_17, upd_ne (by first | omega | (simp only [vb] at *; omega))]; first | exact ht15004_τ | assumption
            have hcTX_σ_17 : TX 15600 σ_17 L x := by rw [eσ_17]; exact TX.fr hcTX_τ (fun a ha hb => upd_ne (by first | omega | (simp only [vb] at *; omega)))
            have hcFR_σ_17 : ∀ a, (a < 15003 ∨ 15005 < a) → σ_17 a = σ a := by intro a ha; exact Eq.trans (b := (τ) a) (by rw [eσ_17, upd_ne (by first | omega | (simp only [vb] at *; omega))]) (hcFR_τ a ha)
            refine g_aload_n h dX7_advance_68 0 rfl ?_
            refine g_geti h dX7_advance_69 gX7_100 sc_15 rfl ?_
            refine g_top (y := (nI e1)) (by first | exact ht15004_σ_17 | assumption) ?_
            refine g_aload_n h dX7_advance_72 0 rfl ?_
            refine g_geti h dX7_advance_73 gX7_25 sc_15 rfl ?_
            refine g_top (y := (nI L)) (by first | exact ht15002_σ_17 | assumption) ?_
            refine g_icmpN_lt h dX7_advance_76 (by omega) (by omega) (fun c76 => ?_) (fun c76 => ?_)
            ·
              refine g_aload_n h dX7_advance_87 0 rfl ?_
              refine g_getr h dX7_advance_88 gX7_9 sc_15 rfl ?_
              refine g_aload_n h dX7_advance_91 0 rfl ?_
              refine g_geti h dX7_advance_92 gX7_100 sc_15 rfl ?_
              refine g_top (y := (nI e1)) (by first | exact ht15004_σ_17 | assumption) ?_
              refine g_bald h dX7_advance_95 sc_16 (by omega) ?_
              refine g_top (y := (by8 (x e1))) ((hcTX_σ_17 e1 (by omega)).2) ?_
              refine g_cspi (rest := []) h (c_isLetter hW (by8 (x e1)) ) lX7_isLetter mX7_103 (Nat.lt_of_lt_of_le (by decide) (Nat.le_refl _)) (by decide) rfl rfl rfl dX7_advance_96 ?_
              refine g_top (y := (b2i (leC (x e1)))) (congrArg b2i (by8_k (hcTX_σ_17 e1 (by omega)).1).2.1) ?_
              refine g_ifB_eq h dX7_advance_99 (fun c99 => ?_) (fun c99 => ?_)
              ·
                refine g_aload_n h dX7_advance_149 0 rfl ?_
                refine g_getr h dX7_advance_150 gX7_9 sc_15 rfl ?_
                refine g_aload_n h dX7_advance_153 0 rfl ?_
                refine g_geti h dX7_advance_154 gX7_100 sc_15 rfl ?_
                refine g_top (y := (nI e1)) (by first | exact ht15004_σ_17 | assumption) ?_
                refine g_bald h dX7_advance_157 sc_16 (by omega) ?_
                refine g_top (y := (by8 (x e1))) ((hcTX_σ_17 e1 (by omega)).2) ?_
                refine g_cspi (rest := []) h (c_isDigit hW (by8 (x e1)) ) lX7_isDigit mX7_107 (Nat.lt_of_lt_of_le (by decide) (Nat.le_refl _)) (by decide) rfl rfl rfl dX7_advance_158 ?_
                refine g_top (y := (b2i (dgC (x e1)))) (congrArg b2i (by8_k (hcTX_σ_17 e1 (by omega)).1).2.2.1) ?_
                refine g_ifB_eq h dX7_advance_161 (fun c161 => ?_) (fun c161 => ?_)
                ·
                  have hl0 := tx_el (x := x) (L := L) (e := e) (by rw [hS2]; omega) (by rw [hS2, c99]; decide) (by rw [hS2, c161]; decide)
                  rw [hS2] at hl0
                  have hE3 := hl0.1
                  have hx8 := (hcTX_τ e1 (by omega)).1
                  refine g_aload_n h dX7_advance_228 0 rfl ?_
                  refine g_aload_n h dX7_advance_229 0 rfl ?_
                  refine g_getr h dX7_advance_230 gX7_9 sc_15 rfl ?_
                  refine g_aload_n h dX7_advance_233 0 rfl ?_
                  refine g_geti h dX7_advance_234 gX7_100 sc_15 rfl ?_
                  refine g_top (y := (nI e1)) (by first | exact ht15004_σ_17 | assumption) ?_
                  refine g_bald h dX7_advance_237 sc_16 (by omega) ?_
                  refine g_top (y := (by8 (x e1))) ((hcTX_σ_17 e1 (by omega)).2) ?_
                  refine g_bipush h dX7_advance_238 (by decide) ?_
                  refine g_icmp_ne h dX7_advance_240 (fun c240 => ?_) (fun c240 => ?_)
                  ·
                    have hK : txK x L e = 4 := by rw [hl0.2, if_neg (fun q => c240 ((by8_eq hx8 (by decide)).mpr q))]
                    refine g_iconst h dX7_advance_247 (by decide) ?_
                    refine g_puti h dX7_advance_248 pX7_55 sc_15 rfl ?_
                    refine g_nm (fun σ_18 eσ_18 => ?_)
                    have eσ_18 : σ_18 = upd σ_17 15003 (nI 4) := eσ_18
                    have ht15002_σ_18 : σ_18 15002 = (nI L) := by rw [eσ_18, upd_ne (by first | omega | (simp only [vb] at *; omega))]; first | exact ht15002_σ_17 | assumption
                    have ht15005_σ_18 : σ_18 15005 = (nI e1) := by rw [eσ_18, upd_ne (by first | omega | (simp only [vb] at *; omega))]; first | exact ht15005_σ_17 | assumption
                    have ht15004_σ_18 : σ_18 15004 = (nI e1) := by rw [eσ_18, upd_ne (by first | omega | (simp only [vb] at *; omega))]; first | exact ht15004_σ_17 | assumption
                    have ht15003_σ_18 : σ_18 15003 = (nI 4) := by rw [eσ_18]; exact upd_eq
                    have hcTX_σ_18 : TX 15600 σ_18 L x := by rw [eσ_18]; exact TX.fr hcTX_σ_17 (fun a ha hb => upd_ne (by first | omega | (simp only [vb] at *; omega)))
                    have hcFR_σ_18 : ∀ a, (a < 15003 ∨ 15005 < a) → σ_18 a = σ a := by intro a ha; exact Eq.trans (b := σ_17 a) (by rw [eσ_18, upd_ne (by first | omega | (simp only [vb] at *; omega))]) (hcFR_σ_17 a ha)
                    refine g_aload_n h dX7_advance_251 0 rfl ?_
                    refine g_dup h dX7_advance_252 rfl ?_
                    refine g_geti h dX7_advance_253 gX7_43 sc_15 rfl ?_
                    refine g_top (y := (nI e1)) (by first | exact ht15005_σ_18 | assumption) ?_
                    refine g_iconst h dX7_advance_256 (by decide) ?_
                    refine g_iaddN h dX7_advance_257  ?_
                    refine g_puti h dX7_advance_258 pX7_43 sc_15 rfl ?_
                    refine g_nm (fun σ_19 eσ_19 => ?_)
                    have eσ_19 : σ_19 = upd σ_18 15005 (nI (e1 + 1)) := eσ_19
                    have ht15002_σ_19 : σ_19 15002 = (nI L) := by rw [eσ_19, upd_ne (by first | omega | (simp only [vb] at *; omega))]; first | exact ht15002_σ_18 | assumption
                    have ht15005_σ_19 : σ_19 15005 = (nI (e1 + 1)) := by rw [eσ_19]; exact upd_eq
                    have ht15004_σ_19 : σ_19 15004 = (nI e1) := by rw [eσ_19, upd_ne (by first | omega | (simp only [vb] at *; omega))]; first | exact ht15004_σ_18 | assumption
                    have ht15003_σ_19 : σ_19 15003 = (nI 4) := by rw [eσ_19, upd_ne (by first | omega | (simp only [vb] at *; omega))]; first | exact ht15003_σ_18 | assumption
                    have hcTX_σ_19 : TX 15600 σ_19 L x := by rw [eσ_19]; exact TX.fr hcTX_σ_18 (fun a ha hb => upd_ne (by first | omega | (simp only [vb] at *; omega)))
                    have hcFR_σ_19 : ∀ a, (a < 15003 ∨ 15005 < a) → σ_19 a = σ a := by intro a ha; exact Eq.trans (b := σ_18 a) (by rw [eσ_19, upd_ne (by first | omega | (simp only [vb] at *; omega))]) (hcFR_σ_18 a ha)
                    exact g_vret h hQ dX7_advance_261 rfl (by exact ⟨(by first | exact ht15002_σ_19 | assumption | fail), (by rw [hK]; exact ht15003_σ_19), (by rw [hS2]; exact ht15004_σ_19), (by rw [hE3]; exact ht15005_σ_19), (by first | exact hcTX_σ_19 | assumption | fail), (by exact hcFR_σ_19)⟩)
                  ·
                    have hK : txK x L e = 3 := by rw [hl0.2, if_pos ((by8_eq hx8 (by decide)).mp c240)]
                    refine g_iconst h dX7_advance_243 (by decide) ?_
                    refine g_goto h dX7_advance_244 ?_
                    refine g_puti h dX7_advance_248 pX7_55 sc_15 rfl ?_
                    refine g_nm (fun σ_20 eσ_20 => ?_)
                    have eσ_20 : σ_20 = upd σ_17 15003 (nI 3) := eσ_20
                    have ht15002_σ_20 : σ_20 15002 = (nI L) := by rw [eσ_20, upd_ne (by first | omega | (simp only [vb] at *; omega))]; first | exact ht15002_σ_17 | assumption
                    have ht15005_σ_20 : σ_20 15005 = (nI e1) := by rw [eσ_20, upd_ne (by first | omega | (simp only [vb] at *; omega))]; first | exact ht15005_σ_17 | assumption
                    have ht15004_σ_20 : σ_20 15004 = (nI e1) := by rw [eσ_20, upd_ne (by first | omega | (simp only [vb] at *; omega))]; first | exact ht15004_σ_17 | assumption
                    have ht15003_σ_20 : σ_20 15003 = (nI 3) := by rw [eσ_20]; exact upd_eq
                    have hcTX_σ_20 : TX 15600 σ_20 L x := by rw [eσ_20]; exact TX.fr hcTX_σ_17 (fun a ha hb => upd_ne (by first | omega | (simp only [vb] at *; omega)))
                    have hcFR_σ_20 : ∀ a, (a < 15003 ∨ 15005 < a) → σ_20 a = σ a := by intro a ha; exact Eq.trans (b := σ_17 a) (by rw [eσ_20, upd_ne (by first | omega | (simp only [vb] at *; omega))]) (hcFR_σ_17 a ha)
                    refine g_aload_n h dX7_advance_251 0 rfl ?_
                    refine g_dup h dX7_advance_252 rfl ?_
                    refine g_geti h dX7_advance_253 gX7_43 sc_15 rfl ?_
                    refine g_top (y := (nI e1)) (by first | exact ht15005_σ_20 | assumption) ?_
                    refine g_iconst h dX7_advance_256 (by decide) ?_
                    refine g_iaddN h dX7_advance_257  ?_
                    refine g_puti h dX7_advance_258 pX7_43 sc_15 rfl ?_
                    refine g_nm (fun σ_21 eσ_21 => ?_)
                    have eσ_21 : σ_21 = upd σ_20 15005 (nI (e1 + 1)) := eσ_21
                    have ht15002_σ_21 : σ_21 15002 = (nI L) := by rw [eσ_21, upd_ne (by first | omega | (simp only [vb] at *; omega))]; first | exact ht15002_σ_20 | assumption
                    have ht15005_σ_21 : σ_21 15005 = (nI (e1 + 1)) := by rw [eσ_21]; exact upd_eq
                    have ht15004_σ_21 : σ_21 15004 = (nI e1) := by rw [eσ_21, upd_ne (by first | omega | (simp only [vb] at *; omega))]; first | exact ht15004_σ_20 | assumption
                    have ht15003_σ_21 : σ_21 15003 = (nI 3) := by rw [eσ_21, upd_ne (by first | omega | (simp only [vb] at *; omega))]; first | exact ht15003_σ_20 | assumption
                    have hcTX_σ_21 : TX 15600 σ_21 L x := by rw [eσ_21]; exact TX.fr hcTX_σ_20 (fun a ha hb => upd_ne (by first | omega | (simp only [vb] at *; omega)))
                    have hcFR_σ_21 : ∀ a, (a < 15003 ∨ 15005 < a) → σ_21 a = σ a := by intro a ha; exact Eq.trans (b := σ_20 a) (by rw [eσ_21, upd_ne (by first | omega | (simp only [vb] at *; omega))]) (hcFR_σ_20 a ha)
                    exact g_vret h hQ dX7_advance_261 rfl (by exact ⟨(by first | exact ht15002_σ_21 | assumption | fail), (by rw [hK]; exact ht15003_σ_21), (by rw [hS2]; exact ht15004_σ_21), (by rw [hE3]; exact ht15005_σ_21), (by first | exact hcTX_σ_21 | assumption | fail), (by exact hcFR_σ_21)⟩)
                ·
                  have lp164 : ∀ (k9 : Nat) (e2 : Nat) (τ2 : Mem), (e2 ≤ L) → (e1 ≤ e2) → (txE x L e = rnx (fun k => dgC (x k)) L e2) → (τ2 15002 = (nI L)) → (τ2 15005 = (nI e2)) → (τ2 15004 = (nI e1)) → (TX 15600 τ2 L x) → (∀ a, (a < 15003 ∨ 15005 < a) → τ2 a = σ a) → L + 1 - e2 < k9 → G X w 1 164 [(0, .ref (w.1 15))] [] (τ2) := by
                    intro k9
                    induction k9 with
                    | zero => intro e2 τ2 he2 hle hE ht15002_τ2 ht15005_τ2 ht15004_τ2 hcTX_τ2 hcFR_τ2 hm9; exact absurd hm9 (Nat.not_lt_zero _)
                    | succ k9 ih164 =>
                      intro e2 τ2 he2 hle hE ht15002_τ2 ht15005_τ2 ht15004_τ2 hcTX_τ2 hcFR_τ2 hm164
                      refine g_aload_n h dX7_advance_164 0 rfl ?_
                      refine g_geti h dX7_advance_165 gX7_43 sc_15 rfl ?_
                      refine g_top (y := (nI e2)) (by first | exact ht15005_τ2 | assumption) ?_
                      refine g_aload_n h dX7_advance_168 0 rfl ?_
                      refine g_geti h dX7_advance_169 gX7_25 sc_15 rfl ?_
                      refine g_top (y := (nI L)) (by first | exact ht15002_τ2 | assumption) ?_
                      refine g_icmpN_ge h dX7_advance_172 (by omega) (by omega) (fun c172 => ?_) (fun c172 => ?_)
                      ·
                        have hE3 : txE x L e = e2 := by rw [hE]; exact rnx_f (Or.inl (by omega))
                        have hK0 := tx_dk (x := x) (L := L) (e := e) (by rw [hS2]; omega) (by rw [hS2, c99]; decide) (by rw [hS2]; exact c161)
                        rw [hE3, hS2] at hK0
                        refine g_aload_n h dX7_advance_203 0 rfl ?_
                        refine g_aload_n h dX7_advance_204 0 rfl ?_
                        refine g_geti h dX7_advance_205 gX7_43 sc_15 rfl ?_
                        refine g_top (y := (nI e2)) (by first | exact ht15005_τ2 | assumption) ?_
                        refine g_aload_n h dX7_advance_208 0 rfl ?_
                        refine g_geti h dX7_advance_209 gX7_100 sc_15 rfl ?_
                        refine g_top (y := (nI e1)) (by first | exact ht15004_τ2 | assumption) ?_
                        refine g_isubN h dX7_advance_212 (by omega) ?_
                        refine g_iconst h dX7_advance_213 (by decide) ?_
                        refine g_icmpN_gt h dX7_advance_214 (by omega) (by omega) (fun c214 => ?_) (fun c214 => ?_)
                        ·
                          have hK : txK x L e = 4 := by rw [hK0, if_neg (by omega)]
                          refine g_iconst h dX7_advance_221 (by decide) ?_
                          refine g_puti h dX7_advance_222 pX7_55 sc_15 rfl ?_
                          refine g_nm (fun σ_22 eσ_22 => ?_)
                          have eσ_22 : σ_22 = upd (τ2) 15003 (nI 4) := eσ_22
                          have ht15002_σ_22 : σ_22 15002 = (nI L) := by rw [eσ_22, upd_ne (by first | omega | (simp only [vb] at *; omega))]; first | exact ht15002_τ2 | assumption
                          have ht15005_σ_22 : σ_22 15005 = (nI e2) := by rw [eσ_22, upd_ne (by first | omega | (simp only [vb] at *; omega))]; first | exact ht15005_τ2 | assumption
                          have ht15004_σ_22 : σ_22 15004 = (nI e1) := by rw [eσ_22, upd_ne (by first | omega | (simp only [vb] at *; omega))]; first | exact ht15004_τ2 | assumption
                          have ht15003_σ_22 : σ_22 15003 = (nI 4) := by rw [eσ_22]; exact upd_eq
                          have hcTX_σ_22 : TX 15600 σ_22 L x := by rw [eσ_22]; exact TX.fr hcTX_τ2 (fun a ha hb => upd_ne (by first | omega | (simp only [vb] at *; omega)))
                          have hcFR_σ_22 : ∀ a, (a < 15003 ∨ 15005 < a) → σ_22 a = σ a := by intro a ha; exact Eq.trans (b := (τ2) a) (by rw [eσ_22, upd_ne (by first | omega | (simp only [vb] at *; omega))]) (hcFR_τ2 a ha)
                          refine g_goto h dX7_advance_225 ?_
                          exact g_vret h hQ dX7_advance_261 rfl (by exact ⟨(by first | exact ht15002_σ_22 | assumption | fail), (by rw [hK]; exact ht15003_σ_22), (by rw [hS2]; exact ht15004_σ_22), (by rw [hE3]; exact ht15005_σ_22), (by first | exact hcTX_σ_22 | assumption | fail), (by exact hcFR_σ_22)⟩)
                        ·
                          have hK : txK x L e = 2 := by rw [hK0, if_pos (by omega)]
                          refine g_iconst h dX7_advance_217 (by decide) ?_
                          refine g_goto h dX7_advance_218 ?_
                          refine g_puti h dX7_advance_222 pX7_55 sc_15 rfl ?_
                          refine g_nm (fun σ_23 eσ_23 => ?_)
                          have eσ_23 : σ_23 = upd (τ2) 15003 (nI 2) := eσ_23
                          have ht15002_σ_23 : σ_23 15002 = (nI L) := by rw [eσ_23, upd_ne (by first | omega | (simp only [vb] at *; omega))]; first | exact ht15002_τ2 | assumption
                          have ht15005_σ_23 : σ_23 15005 = (nI e2) := by rw [eσ_23, upd_ne (by first | omega | (simp only [vb] at *; omega))]; first | exact ht15005_τ2 | assumption
                          have ht15004_σ_23 : σ_23 15004 = (nI e1) := by rw [eσ_23, upd_ne (by first | omega | (simp only [vb] at *; omega))]; first | exact ht15004_τ2 | assumption
                          have ht15003_σ_23 : σ_23 15003 = (nI 2) := by rw [eσ_23]; exact upd_eq
                          have hcTX_σ_23 : TX 15600 σ_23 L x := by rw [eσ_23]; exact TX.fr hcTX_τ2 (fun a ha hb => upd_ne (by first | omega | (simp only [vb] at *; omega)))
                          have hcFR_σ_23 : ∀ a, (a < 15003 ∨ 15005 < a) → σ_23 a = σ a := by intro a ha; exact Eq.trans (b := (τ2) a) (by rw [eσ_23, upd_ne (by first | omega | (simp only [vb] at *; omega))]) (hcFR_τ2 a ha)
                          refine g_goto h dX7_advance_225 ?_
                          exact g_vret h hQ dX7_advance_261 rfl (by exact ⟨(by first | exact ht15002_σ_23 | assumption | fail), (by rw [hK]; exact ht15003_σ_23), (by rw [hS2]; exact ht15004_σ_23), (by rw [hE3]; exact ht15005_σ_23), (by first | exact hcTX_σ_23 | assumption | fail), (by exact hcFR_σ_23)⟩)
                      ·
                        refine g_aload_n h dX7_advance_175 0 rfl ?_
                        refine g_getr h dX7_advance_176 gX7_9 sc_15 rfl ?_
                        refine g_aload_n h dX7_advance_179 0 rfl ?_
                        refine g_geti h dX7_advance_180 gX7_43 sc_15 rfl ?_
                        refine g_top (y := (nI e2)) (by first | exact ht15005_τ2 | assumption) ?_
                        refine g_bald h dX7_advance_183 sc_16 (by omega) ?_
                        refine g_top (y := (by8 (x e2))) ((hcTX_τ2 e2 (by omega)).2) ?_
                        refine g_cspi (rest := []) h (c_isDigit hW (by8 (x e2)) ) lX7_isDigit mX7_107 (Nat.lt_of_lt_of_le (by decide) (Nat.le_refl _)) (by decide) rfl rfl rfl dX7_advance_184 ?_
                        refine g_top (y := (b2i (dgC (x e2)))) (congrArg b2i (by8_k (hcTX_τ2 e2 (by omega)).1).2.2.1) ?_
                        refine g_ifB_eq h dX7_advance_187 (fun c187 => ?_) (fun c187 => ?_)
                        ·
                          have hE3 : txE x L e = e2 := by rw [hE]; exact rnx_f (Or.inr c187)
                          have hK0 := tx_dk (x := x) (L := L) (e := e) (by rw [hS2]; omega) (by rw [hS2, c99]; decide) (by rw [hS2]; exact c161)
                          rw [hE3, hS2] at hK0
                          refine g_aload_n h dX7_advance_203 0 rfl ?_
                          refine g_aload_n h dX7_advance_204 0 rfl ?_
                          refine g_geti h dX7_advance_205 gX7_43 sc_15 rfl ?_
                          refine g_top (y := (nI e2)) (by first | exact ht15005_τ2 | assumption) ?_
                          refine g_aload_n h dX7_advance_208 0 rfl ?_
                          refine g_geti h dX7_advance_209 gX7_100 sc_15 rfl ?_
                          refine g_top (y := (nI e1)) (by first | exact ht15004_τ2 | assumption) ?_
                          refine g_isubN h dX7_advance_212 (by omega) ?_
                          refine g_iconst h dX7_advance_213 (by decide) ?_
                          refine g_icmpN_gt h dX7_advance_214 (by omega) (by omega) (fun c214 => ?_) (fun c214 => ?_)
                          ·
                            have hK : txK x L e = 4 := by rw [hK0, if_neg (by omega)]
                            refine g_iconst h dX7_advance_221 (by decide) ?_
                            refine g_puti h dX7_advance_222 pX7_55 sc_15 rfl ?_
                            refine g_nm (fun σ_24 eσ_24 => ?_)
                            have eσ_24 : σ_24 = upd (τ2) 15003 (nI 4) := eσ_24
                            have ht15002_σ_24 : σ_24 15002 = (nI L) := by rw [eσ_24, upd_ne (by first | omega | (simp only [vb] at *; omega))]; first | exact ht15002_τ2 | assumption
                            have ht15005_σ_24 : σ_24 15005 = (nI e2) := by rw [eσ_24, upd_ne (by first | omega | (simp only [vb] at *; omega))]; first | exact ht15005_τ2 | assumption
                            have ht15004_σ_24 : σ_24 15004 = (nI e1) := by rw [eσ_24, upd_ne (by first | omega | (simp only [vb] at *; omega))]; first | exact ht15004_τ2 | assumption
                            have ht15003_σ_24 : σ_24 15003 = (nI 4) := by rw [eσ_24]; exact upd_eq
                            have hcTX_σ_24 : TX 15600 σ_24 L x := by rw [eσ_24]; exact TX.fr hcTX_τ2 (fun a ha hb => upd_ne (by first | omega | (simp only [vb] at *; omega)))
                            have hcFR_σ_24 : ∀ a, (a < 15003 ∨ 15005 < a) → σ_24 a = σ a := by intro a ha; exact Eq.trans (b := (τ2) a) (by rw [eσ_24, upd_ne (by first | omega | (simp only [vb] at *; omega))]) (hcFR_τ2 a ha)
                            refine g_goto h dX7_advance_225 ?_
                            exact g_vret h hQ dX7_advance_261 rfl (by exact ⟨(by first | exact ht15002_σ_24 | assumption | fail), (by rw [hK]; exact ht15003_σ_24), (by rw [hS2]; exact ht15004_σ_24), (by rw [hE3]; exact ht15005_σ_24), (by first | exact hcTX_σ_24 | assumption | fail), (by exact hcFR_σ_24)⟩)
                          ·
                            have hK : txK x L e = 2 := by rw [hK0, if_pos (by omega)]
                            refine g_iconst h dX7_advance_217 (by decide) ?_
                            refine g_goto h dX7_advance_218 ?_
                            refine g_puti h dX7_advance_222 pX7_55 sc_15 rfl ?_
                            refine g_nm (fun σ_25 eσ_25 => ?_)
                            have eσ_25 : σ_25 = upd (τ2) 15003 (nI 2) := eσ_25
                            have ht15002_σ_25 : σ_25 15002 = (nI L) := by rw [eσ_25, upd_ne (by first | omega | (simp only [vb] at *; omega))]; first | exact ht15002_τ2 | assumption
                            have ht15005_σ_25 : σ_25 15005 = (nI e2) := by rw [eσ_25, upd_ne (by first | omega | (simp only [vb] at *; omega))]; first | exact ht15005_τ2 | assumption
                            have ht15004_σ_25 : σ_25 15004 = (nI e1) := by rw [eσ_25, upd_ne (by first | omega | (simp only [vb] at *; omega))]; first | exact ht15004_τ2 | assumption
                            have ht15003_σ_25 : σ_25 15003 = (nI 2) := by rw [eσ_25]; exact upd_eq
                            have hcTX_σ_25 : TX 15600 σ_25 L x := by rw [eσ_25]; exact TX.fr hcTX_τ2 (fun a ha hb => upd_ne (by first | omega | (simp only [vb] at *; omega)))
                            have hcFR_σ_25 : ∀ a, (a < 15003 ∨ 15005 < a) → σ_25 a = σ a := by intro a ha; exact Eq.trans (b := (τ2) a) (by rw [eσ_25, upd_ne (by first | omega | (simp only [vb] at *; omega))]) (hcFR_τ2 a ha)
                            refine g_goto h dX7_advance_225 ?_
                            exact g_vret h hQ dX7_advance_261 rfl (by exact ⟨(by first | exact ht15002_σ_25 | assumption | fail), (by rw [hK]; exact ht15003_σ_25), (by rw [hS2]; exact ht15004_σ_25), (by rw [hE3]; exact ht15005_σ_25), (by first | exact hcTX_σ_25 | assumption | fail), (by exact hcFR_σ_25)⟩)
                        ·
                          refine g_aload_n h dX7_advance_190 0 rfl ?_
                          refine g_dup h dX7_advance_191 rfl ?_
                          refine g_geti h dX7_advance_192 gX7_43 sc_15 rfl ?_
                          refine g_top (y := (nI e2)) (by first | exact ht15005_τ2 | assumption) ?_
                          refine g_iconst h dX7_advance_195 (by decide) ?_
                          refine g_iaddN h dX7_advance_196  ?_
                          refine g_puti h dX7_advance_197 pX7_43 sc_15 rfl ?_
                          refine g_nm (fun σ_26 eσ_26 => ?_)
                          have eσ_26 : σ_26 = upd (τ2) 15005 (nI (e2 + 1)) := eσ_26
                          have ht15002_σ_26 : σ_26 15002 = (nI L) := by rw [eσ_26, upd_ne (by first | omega | (simp only [vb] at *; omega))]; first | exact ht15002_τ2 | assumption
                          have ht15005_σ_26 : σ_26 15005 = (nI (e2 + 1)) := by rw [eσ_26]; exact upd_eq
                          have ht15004_σ_26 : σ_26 15004 = (nI e1) := by rw [eσ_26, upd_ne (by first | omega | (simp only [vb] at *; omega))]; first | exact ht15004_τ2 | assumption
                          have hcTX_σ_26 : TX 15600 σ_26 L x := by rw [eσ_26]; exact TX.fr hcTX_τ2 (fun a ha hb => upd_ne (by first | omega | (simp only [vb] at *; omega)))
                          have hcFR_σ_26 : ∀ a, (a < 15003 ∨ 15005 < a) → σ_26 a = σ a := by intro a ha; exact Eq.trans (b := (τ2) a) (by rw [eσ_26, upd_ne (by first | omega | (simp only [vb] at *; omega))]) (hcFR_τ2 a ha)
                          refine g_goto h dX7_advance_200 ?_
                          exact ih164 (e2 + 1) σ_26 (by omega) (by omega) (by rw [hE]; exact rnx_t (by omega) c187) (by first | exact ht15002_σ_26 | assumption | fail | fail) (by first | exact ht15005_σ_26 | assumption | fail | fail) (by first | exact ht15004_σ_26 | assumption | fail | fail) (by first | exact hcTX_σ_26 | assumption | fail | fail) (by first | exact hcFR_σ_26 | assumption | fail | fail) (by omega)
                  exact lp164 (_) e1 σ_17 (by omega) (by omega) (by rw [tx_dg (x := x) (L := L) (e := e) (by rw [hS2]; omega) (by rw [hS2, c99]; decide) (by rw [hS2]; exact c161), hS2]) (by first | exact ht15002_σ_17 | assumption | fail | fail) (by first | exact ht15005_σ_17 | assumption | fail | fail) (by first | exact ht15004_σ_17 | assumption | fail | fail) (by first | exact hcTX_σ_17 | assumption | fail | fail) (by first | exact hcFR_σ_17 | assumption | fail | fail) (Nat.lt_succ_self _)
              ·
                have lp102 : ∀ (k9 : Nat) (e2 : Nat) (τ2 : Mem), (e2 ≤ L) → (e1 ≤ e2) → (txE x L e = rnx (fun k => leC (x k)) L e2) → (τ2 15002 = (nI L)) → (τ2 15005 = (nI e2)) → (τ2 15004 = (nI e1)) → (TX 15600 τ2 L x) → (∀ a, (a < 15003 ∨ 15005 < a) → τ2 a = σ a) → L + 1 - e2 < k9 → G X w 1 102 [(0, .ref (w.1 15))] [] (τ2) := by
                  intro k9
                  induction k9 with
                  | zero => intro e2 τ2 he2 hle hE ht15002_τ2 ht15005_τ2 ht15004_τ2 hcTX_τ2 hcFR_τ2 hm9; exact absurd hm9 (Nat.not_lt_zero _)
                  | succ k9 ih102 =>
                    intro e2 τ2 he2 hle hE ht15002_τ2 ht15005_τ2 ht15004_τ2 hcTX_τ2 hcFR_τ2 hm102
                    refine g_aload_n h dX7_advance_102 0 rfl ?_
                    refine g_geti h dX7_advance_103 gX7_43 sc_15 rfl ?_
                    refine g_top (y := (nI e2)) (by first | exact ht15005_τ2 | assumption) ?_
                    refine g_aload_n h dX7_advance_106 0 rfl ?_
                    refine g_geti h dX7_advance_107 gX7_25 sc_15 rfl ?_
                    refine g_top (y := (nI L)) (by first | exact ht15002_τ2 | assumption) ?_
                    refine g_icmpN_ge h dX7_advance_110 (by omega) (by omega) (fun c110 => ?_) (fun c110 => ?_)
                    ·
                      have hE3 : txE x L e = e2 := by rw [hE]; exact rnx_f (Or.inl (by omega))
                      have hK : txK x L e = 1 := (tx_le (x := x) (L := L) (e := e) (by rw [hS2]; omega) (by rw [hS2]; exact c99)).2
                      refine g_aload_n h dX7_advance_141 0 rfl ?_
                      refine g_iconst h dX7_advance_142 (by decide) ?_
                      refine g_puti h dX7_advance_143 pX7_55 sc_15 rfl ?_
                      refine g_nm (fun σ_27 eσ_27 => ?_)
                      have eσ_27 : σ_27 = upd (τ2) 15003 (nI 1) := eσ_27
                      have ht15002_σ_27 : σ_27 15002 = (nI L) := by rw [eσ_27, upd_ne (by first | omega | (simp only [vb] at *; omega))]; first | exact ht15002_τ2 | assumption
                      have ht15005_σ_27 : σ_27 15005 = (nI e2) := by rw [eσ_27, upd_ne (by first | omega | (simp only [vb] at *; omega))]; first | exact ht15005_τ2 | assumption
                      have ht15004_σ_27 : σ_27 15004 = (nI e1) := by rw [eσ_27, upd_ne (by first | omega | (simp only [vb] at *; omega))]; first | exact ht15004_τ2 | assumption
                      have ht15003_σ_27 : σ_27 15003 = (nI 1) := by rw [eσ_27]; exact upd_eq
                      have hcTX_σ_27 : TX 15600 σ_27 L x := by rw [eσ_27]; exact TX.fr hcTX_τ2 (fun a ha hb => upd_ne (by first | omega | (simp only [vb] at *; omega)))
                      have hcFR_σ_27 : ∀ a, (a < 15003 ∨ 15005 < a) → σ_27 a = σ a := by intro a ha; exact Eq.trans (b := (τ2) a) (by rw [eσ_27, upd_ne (by first | omega | (simp only [vb] at *; omega))]) (hcFR_τ2 a ha)
                      refine g_goto h dX7_advance_146 ?_
                      exact g_vret h hQ dX7_advance_261 rfl (by exact ⟨(by first | exact ht15002_σ_27 | assumption | fail), (by rw [hK]; exact ht15003_σ_27), (by rw [hS2]; exact ht15004_σ_27), (by rw [hE3]; exact ht15005_σ_27), (by first | exact hcTX_σ_27 | assumption | fail), (by exact hcFR_σ_27)⟩)
                    ·
                      refine g_aload_n h dX7_advance_113 0 rfl ?_
                      refine g_getr h dX7_advance_114 gX7_9 sc_15 rfl ?_
                      refine g_aload_n h dX7_advance_117 0 rfl ?_
                      refine g_geti h dX7_advance_118 gX7_43 sc_15 rfl ?_
                      refine g_top (y := (nI e2)) (by first | exact ht15005_τ2 | assumption) ?_
                      refine g_bald h dX7_advance_121 sc_16 (by omega) ?_
                      refine g_top (y := (by8 (x e2))) ((hcTX_τ2 e2 (by omega)).2) ?_
                      refine g_cspi (rest := []) h (c_isLetter hW (by8 (x e2)) ) lX7_isLetter mX7_103 (Nat.lt_of_lt_of_le (by decide) (Nat.le_refl _)) (by decide) rfl rfl rfl dX7_advance_122 ?_
                      refine g_top (y := (b2i (leC (x e2)))) (congrArg b2i (by8_k (hcTX_τ2 e2 (by omega)).1).2.1) ?_
                      refine g_ifB_eq h dX7_advance_125 (fun c125 => ?_) (fun c125 => ?_)
                      ·
                        have hE3 : txE x L e = e2 := by rw [hE]; exact rnx_f (Or.inr c125)
                        have hK : txK x L e = 1 := (tx_le (x := x) (L := L) (e := e) (by rw [hS2]; omega) (by rw [hS2]; exact c99)).2
                        refine g_aload_n h dX7_advance_141 0 rfl ?_
                        refine g_iconst h dX7_advance_142 (by decide) ?_
                        refine g_puti h dX7_advance_143 pX7_55 sc_15 rfl ?_
                        refine g_nm (fun σ_28 eσ_28 => ?_)
                        have eσ_28 : σ_28 = upd (τ2) 15003 (nI 1) := eσ_28
                        have ht15002_σ_28 : σ_28 15002 = (nI L) := by rw [eσ_28, upd_ne (by first | omega | (simp only [vb] at *; omega))]; first | exact ht15002_τ2 | assumption
                        have ht15005_σ_28 : σ_28 15005 = (nI e2) := by rw [eσ_28, upd_ne (by first | omega | (simp only [vb] at *; omega))]; first | exact ht15005_τ2 | assumption
                        have ht15004_σ_28 : σ_28 15004 = (nI e1) := by rw [eσ_28, upd_ne (by first | omega | (simp only [vb] at *; omega))]; first | exact ht15004_τ2 | assumption
                        have ht15003_σ_28 : σ_28 15003 = (nI 1) := by rw [eσ_28]; exact upd_eq
                        have hcTX_σ_28 : TX 15600 σ_28 L x := by rw [eσ_28]; exact TX.fr hcTX_τ2 (fun a ha hb => upd_ne (by first | omega | (simp only [vb] at *; omega)))
                        have hcFR_σ_28 : ∀ a, (a < 15003 ∨ 15005 < a) → σ_28 a = σ a := by intro a ha; exact Eq.trans (b := (τ2) a) (by rw [eσ_28, upd_ne (by first | omega | (simp only [vb] at *; omega))]) (hcFR_τ2 a ha)
                        refine g_goto h dX7_advance_146 ?_
                        exact g_vret h hQ dX7_advance_261 rfl (by exact ⟨(by first | exact ht15002_σ_28 | assumption | fail), (by rw [hK]; exact ht15003_σ_28), (by rw [hS2]; exact ht15004_σ_28), (by rw [hE3]; exact ht15005_σ_28), (by first | exact hcTX_σ_28 | assumption | fail), (by exact hcFR_σ_28)⟩)
                      ·
                        refine g_aload_n h dX7_advance_128 0 rfl ?_
                        refine g_dup h dX7_advance_129 rfl ?_
                        refine g_geti h dX7_advance_130 gX7_43 sc_15 rfl ?_
                        refine g_top (y := (nI e2)) (by first | exact ht15005_τ2 | assumption) ?_
                        refine g_iconst h dX7_advance_133 (by decide) ?_
                        refine g_iaddN h dX7_advance_134  ?_
                        refine g_puti h dX7_advance_135 pX7_43 sc_15 rfl ?_
                        refine g_nm (fun σ_29 eσ_29 => ?_)
                        have eσ_29 : σ_29 = upd (τ2) 15005 (nI (e2 + 1)) := eσ_29
                        have ht15002_σ_29 : σ_29 15002 = (nI L) := by rw [eσ_29, upd_ne (by first | omega | (simp only [vb] at *; omega))]; first | exact ht15002_τ2 | assumption
                        have ht15005_σ_29 : σ_29 15005 = (nI (e2 + 1)) := by rw [eσ_29]; exact upd_eq
                        have ht15004_σ_29 : σ_29 15004 = (nI e1) := by rw [eσ_29, upd_ne (by first | omega | (simp only [vb] at *; omega))]; first | exact ht15004_τ2 | assumption
                        have hcTX_σ_29 : TX 15600 σ_29 L x := by rw [eσ_29]; exact TX.fr hcTX_τ2 (fun a ha hb => upd_ne (by first | omega | (simp only [vb] at *; omega)))
                        have hcFR_σ_29 : ∀ a, (a < 15003 ∨ 15005 < a) → σ_29 a = σ a := by intro a ha; exact Eq.trans (b := (τ2) a) (by rw [eσ_29, upd_ne (by first | omega | (simp only [vb] at *; omega))]) (hcFR_τ2 a ha)
                        refine g_goto h dX7_advance_138 ?_
                        exact ih102 (e2 + 1) σ_29 (by omega) (by omega) (by rw [hE]; exact rnx_t (by omega) c125) (by first | exact ht15002_σ_29 | assumption | fail | fail) (by first | exact ht15005_σ_29 | assumption | fail | fail) (by first | exact ht15004_σ_29 | assumption | fail | fail) (by first | exact hcTX_σ_29 | assumption | fail | fail) (by first | exact hcFR_σ_29 | assumption | fail | fail) (by omega)
                exact lp102 (_) e1 σ_17 (by omega) (by omega) (by rw [(tx_le (x := x) (L := L) (e := e) (by rw [hS2]; omega) (by rw [hS2]; exact c99)).1, hS2]) (by first | exact ht15002_σ_17 | assumption | fail | fail) (by first | exact ht15005_σ_17 | assumption | fail | fail) (by first | exact ht15004_σ_17 | assumption | fail | fail) (by first | exact hcTX_σ_17 | assumption | fail | fail) (by first | exact hcFR_σ_17 | assumption | fail | fail) (Nat.lt_succ_self _)
            ·
              have hx9 : L ≤ txS x L e := by rw [hS2]; omega
              have hK : txK x L e = 0 := (tx_end hx9).2
              have hE3 : txE x L e = e1 := by rw [(tx_end hx9).1, hS2]
              refine g_aload_n h dX7_advance_79 0 rfl ?_
              refine g_iconst h dX7_advance_80 (by decide) ?_
              refine g_puti h dX7_advance_81 pX7_55 sc_15 rfl ?_
              refine g_nm (fun σ_30 eσ_30 => ?_)
              have eσ_30 : σ_30 = upd σ_17 15003 (nI 0) := eσ_30
              have ht15002_σ_30 : σ_30 15002 = (nI L) := by rw [eσ_30, upd_ne (by first | omega | (simp only [vb] at *; omega))]; first | exact ht15002_σ_17 | assumption
              have ht15005_σ_30 : σ_30 15005 = (nI e1) := by rw [eσ_30, upd_ne (by first | omega | (simp only [vb] at *; omega))]; first | exact ht15005_σ_17 | assumption
              have ht15004_σ_30 : σ_30 15004 = (nI e1) := by rw [eσ_30, upd_ne (by first | omega | (simp only [vb] at *; omega))]; first | exact ht15004_σ_17 | assumption
              have ht15003_σ_30 : σ_30 15003 = (nI 0) := by rw [eσ_30]; exact upd_eq
              have hcTX_σ_30 : TX 15600 σ_30 L x := by rw [eσ_30]; exact TX.fr hcTX_σ_17 (fun a ha hb => upd_ne (by first | omega | (simp only [vb] at *; omega)))
              have hcFR_σ_30 : ∀ a, (a < 15003 ∨ 15005 < a) → σ_30 a = σ a := by intro a ha; exact Eq.trans (b := σ_17 a) (by rw [eσ_30, upd_ne (by first | omega | (simp only [vb] at *; omega))]) (hcFR_σ_17 a ha)
              refine g_goto h dX7_advance_84 ?_
              exact g_vret h hQ dX7_advance_261 rfl (by exact ⟨(by first | exact ht15002_σ_30 | assumption | fail), (by rw [hK]; exact ht15003_σ_30), (by rw [hS2]; exact ht15004_σ_30), (by rw [hE3]; exact ht15005_σ_30), (by first | exact hcTX_σ_30 | assumption | fail), (by exact hcFR_σ_30)⟩)
          ·
            have hbl : e1 < L ∧ blC (x e1) = true := by first | exact ⟨by omega, cb_1 (hcTX_τ e1 (by omega)).1 c30⟩ | exact ⟨by omega, cb_2 (hcTX_τ e1 (by omega)).1 c44⟩
            refine g_aload_n h dX7_advance_47 0 rfl ?_
            refine g_dup h dX7_advance_48 rfl ?_
            refine g_geti h dX7_advance_49 gX7_100 sc_15 rfl ?_
            refine g_top (y := (nI e1)) (by first | exact ht15004_τ | assumption) ?_
            refine g_iconst h dX7_advance_52 (by decide) ?_
            refine g_iaddN h dX7_advance_53  ?_
            refine g_puti h dX7_advance_54 pX7_100 sc_15 rfl ?_
            refine g_nm (fun σ_31 eσ_31 => ?_)
            have eσ_31 : σ_31 = upd (τ) 15004 (nI (e1 + 1)) := eσ_31
            have ht15002_σ_31 : σ_31 15002 = (nI L) := by rw [eσ_31, upd_ne (by first | omega | (simp only [vb] at *; omega))]; first | exact ht15002_τ | assumption
            have ht15005_σ_31 : σ_31 15005 = (nI e) := by rw [eσ_31, upd_ne (by first | omega | (simp only [vb] at *; omega))]; first | exact ht15005_τ | assumption
            have ht15004_σ_31 : σ_31 15004 = (nI (e1 + 1)) := by rw [eσ_31]; exact upd_eq
            have hcTX_σ_31 : TX 15600 σ_31 L x := by rw [eσ_31]; exact TX.fr hcTX_τ (fun a ha hb => upd_ne (by first | omega | (simp only [vb] at *; omega)))
            have hcFR_σ_31 : ∀ a, (a < 15003 ∨ 15005 < a) → σ_31 a = σ a := by intro a ha; exact Eq.trans (b := (τ) a) (by rw [eσ_31, upd_ne (by first | omega | (simp only [vb] at *; omega))]) (hcFR_τ a ha)
            refine g_goto h dX7_advance_57 ?_
            exact ih8 (e1 + 1) σ_31 (by omega) (by rw [hS]; exact rnx_t hbl.1 hbl.2) (by first | exact ht15002_σ_31 | assumption | fail | fail) (by first | exact ht15005_σ_31 | assumption | fail | fail) (by first | exact ht15004_σ_31 | assumption | fail | fail) (by first | exact hcTX_σ_31 | assumption | fail | fail) (by first | exact hcFR_σ_31 | assumption | fail | fail) (by omega)
  exact lp8 (_) e σ_1 (by omega) (by rfl) (by first | exact ht15002_σ_1 | assumption | fail | fail) (by first | exact ht15005_σ_1 | assumption | fail | fail) (by first | exact ht15004_σ_1 | assumption | fail | fail) (by first | exact hcTX_σ_1 | assumption | fail | fail) (by first | exact hcFR_σ_1 | assumption | fail | fail) (Nat.lt_succ_self _)

set_option maxRecDepth 100000 in
set_option maxHeartbeats 4000000 in
theorem c_finds {l : Launch} {w : Wd} (hW : Wi w) {σ : Mem} (q s : Nat) (p0 : Int32) (hq : q < 10) (ht15000_σ : σ 15000 = (nI 0)) (ht15001_σ : σ 15001 = p0) (ht15004_σ : σ 15004 = (nI s)) : MC l w qX7_finds 0 [.ref (w.1 15), .int (nI q)] σ none (fun σ' => (σ' 15000 = (nI q)) ∧ (σ' 15001 = (if q = 0 then p0 else nI s)) ∧ (∀ a, (a ≠ 15000 ∧ a ≠ 15001) → σ' a = σ a)) := by
  refine MC.of hW (by decide +kernel) (Nat.le_of_ble_eq_true rfl) (fun X h hQ hnm => ?_)
  have h : Fx X w cX7_finds 2 RX7 0 := h
  have hQ : Qx X w none none (fun σ' => (σ' 15000 = (nI q)) ∧ (σ' 15001 = (if q = 0 then p0 else nI s)) ∧ (∀ a, (a ≠ 15000 ∧ a ≠ 15001) → σ' a = σ a)) := hQ
  have hcFR_σ : ∀ a, (a ≠ 15000 ∧ a ≠ 15001) → σ a = σ a := fun _ _ => rfl
  show G X w 2 0 [(0, .ref (w.1 15)), (1, .int (nI q))] [] σ
  refine g_aload_n h dX7_finds_0 0 rfl ?_
  refine g_geti h dX7_finds_1 gX7_46 sc_15 rfl ?_
  refine g_top (y := (nI 0)) (by first | exact ht15000_σ | assumption) ?_
  refine g_ifN_ne h dX7_finds_4 (by decide) (fun c4 => absurd c4 (by decide)) (fun c4 => ?_)
  refine g_iload_n h dX7_finds_7 1 rfl ?_
  refine g_ifN_eq h dX7_finds_8 (by omega) (fun c8 => ?_) (fun c8 => ?_)
  ·
    exact g_vret h hQ dX7_finds_24 rfl (by exact ⟨(by first | exact ht15000_σ | (rw [show q = 0 from by omega]; exact ht15000_σ) | fail), (by first | (rw [if_pos (by omega)]; exact ht15001_σ) | (rw [if_neg (by omega)]; exact ht15001_σ) | fail), (by exact hcFR_σ)⟩)
  ·
    refine g_aload_n h dX7_finds_11 0 rfl ?_
    refine g_iload_n h dX7_finds_12 1 rfl ?_
    refine g_puti h dX7_finds_13 pX7_46 sc_15 rfl ?_
    refine g_nm (fun σ_1 eσ_1 => ?_)
    have eσ_1 : σ_1 = upd σ 15000 (nI q) := eσ_1
    have ht15000_σ_1 : σ_1 15000 = (nI q) := by rw [eσ_1]; exact upd_eq
    have ht15001_σ_1 : σ_1 15001 = p0 := by rw [eσ_1, upd_ne (by first | omega | (simp only [vb] at *; omega))]; first | exact ht15001_σ | assumption
    have ht15004_σ_1 : σ_1 15004 = (nI s) := by rw [eσ_1, upd_ne (by first | omega | (simp only [vb] at *; omega))]; first | exact ht15004_σ | assumption
    have hcFR_σ_1 : ∀ a, (a ≠ 15000 ∧ a ≠ 15001) → σ_1 a = σ a := by intro a ha; exact Eq.trans (b := σ a) (by rw [eσ_1, upd_ne (by first | omega | (simp only [vb] at *; omega))]) (hcFR_σ a ha)
    refine g_aload_n h dX7_finds_16 0 rfl ?_
    refine g_aload_n h dX7_finds_17 0 rfl ?_
    refine g_geti h dX7_finds_18 gX7_100 sc_15 rfl ?_
    refine g_top (y := (nI s)) (by first | exact ht15004_σ_1 | assumption) ?_
    refine g_puti h dX7_finds_21 pX7_49 sc_15 rfl ?_
    refine g_nm (fun σ_2 eσ_2 => ?_)
    have eσ_2 : σ_2 = upd σ_1 15001 (nI s) := eσ_2
    have ht15000_σ_2 : σ_2 15000 = (nI q) := by rw [eσ_2, upd_ne (by first | omega | (simp only [vb] at *; omega))]; first | exact ht15000_σ_1 | assumption
    have ht15001_σ_2 : σ_2 15001 = (nI s) := by rw [eσ_2]; exact upd_eq
    have ht15004_σ_2 : σ_2 15004 = (nI s) := by rw [eσ_2, upd_ne (by first | omega | (simp only [vb] at *; omega))]; first | exact ht15004_σ_1 | assumption
    have hcFR_σ_2 : ∀ a, (a ≠ 15000 ∧ a ≠ 15001) → σ_2 a = σ a := by intro a ha; exact Eq.trans (b := σ_1 a) (by rw [eσ_2, upd_ne (by first | omega | (simp only [vb] at *; omega))]) (hcFR_σ_1 a ha)
    exact g_vret h hQ dX7_finds_24 rfl (by exact ⟨(by first | exact ht15000_σ_2 | (rw [show q = 0 from by omega]; exact ht15000_σ_2) | fail), (by first | (rw [if_pos (by omega)]; exact ht15001_σ_2) | (rw [if_neg (by omega)]; exact ht15001_σ_2) | fail), (by exact hcFR_σ_2)⟩)

set_option maxRecDepth 100000 in
set_option maxHeartbeats 4000000 in
theorem c_expect {l : Launch} {w : Wd} (hW : Wi w) {σ : Mem} (wq : Nat) (e L : Nat) (x : Nat → Nat) (p0 : Int32) (he : e ≤ L) (hL : L ≤ 400) (hw9 : wq < 4) (ht15000_σ : σ 15000 = (nI 0)) (ht15001_σ : σ 15001 = p0) (ht15002_σ : σ 15002 = (nI L)) (ht15005_σ : σ 15005 = (nI e)) (hcTX_σ : TX 15600 σ L x) : MC l w qX7_expect 2 [.ref (w.1 15), .int (nI wq)] σ none (fun σ' => (σ' 15002 = (nI L)) ∧ (σ' 15003 = (nI (txK x L e))) ∧ (σ' 15004 = (nI (txS x L e))) ∧ (σ' 15005 = (nI (txE x L e))) ∧ (σ' 15000 = (nI (tf9 (txK x L e) wq))) ∧ (σ' 15001 = (if (tf9 (txK x L e) wq) = 0 then p0 else nI (txS x L e))) ∧ (TX 15600 σ' L x) ∧ (∀ a, (a ≠ 15000 ∧ a ≠ 15001 ∧ (a < 15003 ∨ 15005 < a)) → σ' a = σ a)) := by
  refine MC.of hW (by decide +kernel) (Nat.le_of_ble_eq_true rfl) (fun X h hQ hnm => ?_)
  have h : Fx X w cX7_expect 2 RX7 2 := h
  have hQ : Qx X w none none (fun σ' => (σ' 15002 = (nI L)) ∧ (σ' 15003 = (nI (txK x L e))) ∧ (σ' 15004 = (nI (txS x L e))) ∧ (σ' 15005 = (nI (txE x L e))) ∧ (σ' 15000 = (nI (tf9 (txK x L e) wq))) ∧ (σ' 15001 = (if (tf9 (txK x L e) wq) = 0 then p0 else nI (txS x L e))) ∧ (TX 15600 σ' L x) ∧ (∀ a, (a ≠ 15000 ∧ a ≠ 15001 ∧ (a < 15003 ∨ 15005 < a)) → σ' a = σ a)) := hQ
  have hk5 := txK_5 (x := x) (L := L) (e := e)
  have hcFR_σ : ∀ a, (a ≠ 15000 ∧ a ≠ 15001 ∧ (a < 15003 ∨ 15005 < a)) → σ a = σ a := fun _ _ => rfl
  show G X w 2 0 [(0, .ref (w.1 15)), (1, .int (nI wq))] [] σ
  refine g_aload_n h dX7_expect_0 0 rfl ?_
  refine g_cvv (rest := []) h (c_advance hW e L x (by first | omega | assumption | fail) (by first | omega | assumption | fail) (by first | exact ht15002_σ | assumption | fail) (by first | exact ht15005_σ | assumption | fail) (by first | exact hcTX_σ | assumption | fail)) lX7_advance mX7_52 (Nat.lt_of_lt_of_le (by decide) (Nat.le_refl _)) (by decide) sc_15 rfl rfl rfl rfl dX7_expect_1 (fun σ_1 eσ_1 => ?_)
  obtain ⟨eσ_1_a, eσ_1_b, eσ_1_c, eσ_1_d, eσ_1_e, eσ_1_f⟩ := eσ_1
  have eσ_1_a : σ_1 15002 = (nI L) := eσ_1_a
  have eσ_1_b : σ_1 15003 = (nI (txK x L e)) := eσ_1_b
  have eσ_1_c : σ_1 15004 = (nI (txS x L e)) := eσ_1_c
  have eσ_1_d : σ_1 15005 = (nI (txE x L e)) := eσ_1_d
  have eσ_1_e : TX 15600 σ_1 L x := eσ_1_e
  have eσ_1_f : ∀ a, (a < 15003 ∨ 15005 < a) → σ_1 a = σ a := eσ_1_f
  have ht15000_σ_1 : σ_1 15000 = (nI 0) := by rw [eσ_1_f _ (by first | omega | (simp only [vb] at *; omega))]; first | exact ht15000_σ | assumption
  have ht15001_σ_1 : σ_1 15001 = p0 := by rw [eσ_1_f _ (by first | omega | (simp only [vb] at *; omega))]; first | exact ht15001_σ | assumption
  have ht15002_σ_1 : σ_1 15002 = (nI L) := eσ_1_a
  have ht15003_σ_1 : σ_1 15003 = (nI (txK x L e)) := eσ_1_b
  have ht15004_σ_1 : σ_1 15004 = (nI (txS x L e)) := eσ_1_c
  have ht15005_σ_1 : σ_1 15005 = (nI (txE x L e)) := eσ_1_d
  have hcTX_σ_1 : TX 15600 σ_1 L x := eσ_1_e
  have hcFR_σ_1 : ∀ a, (a ≠ 15000 ∧ a ≠ 15001 ∧ (a < 15003 ∨ 15005 < a)) → σ_1 a = σ a := by intro a ha; exact Eq.trans (b := σ a) (eσ_1_f a (by first | omega | (simp only [vb] at *; omega))) (hcFR_σ a ha)
  refine g_aload_n h dX7_expect_4 0 rfl ?_
  refine g_geti h dX7_expect_5 gX7_55 sc_15 rfl ?_
  refine g_top (y := (nI (txK x L e))) (by first | exact ht15003_σ_1 | assumption) ?_
  refine g_iconst h dX7_expect_8 (by decide) ?_
  refine g_icmpN_ne h dX7_expect_9 (by omega) (by omega) (fun c9 => ?_) (fun c9 => ?_)
  ·
    refine g_aload_n h dX7_expect_20 0 rfl ?_
    refine g_geti h dX7_expect_21 gX7_55 sc_15 rfl ?_
    refine g_top (y := (nI (txK x L e))) (by first | exact ht15003_σ_1 | assumption) ?_
    refine g_iload_n h dX7_expect_24 1 rfl ?_
    refine g_icmpN_eq h dX7_expect_25 (by omega) (by omega) (fun c25 => ?_) (fun c25 => ?_)
    ·
      have hF : (tf9 (txK x L e) wq) = 0 := tf9_y c25
      exact g_vret h hQ dX7_expect_33 rfl (by exact ⟨(by first | exact ht15002_σ_1 | assumption | fail), (by first | exact ht15003_σ_1 | assumption | fail), (by first | exact ht15004_σ_1 | assumption | fail), (by first | exact ht15005_σ_1 | assumption | fail), (by rw [hF]; exact ht15000_σ_1), (by rw [hF]; first | exact ht15001_σ_1 | exact (ht15001_σ_1).trans (if_pos rfl).symm), (by first | exact hcTX_σ_1 | assumption | fail), (by exact hcFR_σ_1)⟩)
    ·
      have hF : (tf9 (txK x L e) wq) = 2 := by unfold tf9; rw [if_neg (by omega), if_neg (by omega)]
      refine g_aload_n h dX7_expect_28 0 rfl ?_
      refine g_iconst h dX7_expect_29 (by decide) ?_
      refine g_cvv (rest := []) h (c_finds hW 2 (txS x L e) p0 (by first | omega | exact AF_lt | exact tf9_lt | assumption | fail) (by first | exact ht15000_σ_1 | assumption | fail) (by first | exact ht15001_σ_1 | assumption | fail) (by first | exact ht15004_σ_1 | assumption | fail)) lX7_finds mX7_66 (Nat.lt_of_lt_of_le (by decide) (Nat.le_refl _)) (by decide) sc_15 rfl rfl rfl rfl dX7_expect_30 (fun σ_2 eσ_2 => ?_)
      obtain ⟨eσ_2_a, eσ_2_b, eσ_2_c⟩ := eσ_2
      have eσ_2_a : σ_2 15000 = (nI 2) := eσ_2_a
      have eσ_2_b : σ_2 15001 = (if 2 = 0 then p0 else nI (txS x L e)) := eσ_2_b
      have eσ_2_c : ∀ a, (a ≠ 15000 ∧ a ≠ 15001) → σ_2 a = σ_1 a := eσ_2_c
      have ht15002_σ_2 : σ_2 15002 = (nI L) := by rw [eσ_2_c _ (by first | omega | (simp only [vb] at *; omega))]; first | exact ht15002_σ_1 | assumption
      have ht15003_σ_2 : σ_2 15003 = (nI (txK x L e)) := by rw [eσ_2_c _ (by first | omega | (simp only [vb] at *; omega))]; first | exact ht15003_σ_1 | assumption
      have ht15004_σ_2 : σ_2 15004 = (nI (txS x L e)) := by rw [eσ_2_c _ (by first | omega | (simp only [vb] at *; omega))]; first | exact ht15004_σ_1 | assumption
      have ht15005_σ_2 : σ_2 15005 = (nI (txE x L e)) := by rw [eσ_2_c _ (by first | omega | (simp only [vb] at *; omega))]; first | exact ht15005_σ_1 | assumption
      have ht15000_σ_2 : σ_2 15000 = (nI 2) := eσ_2_a
      have ht15001_σ_2 : σ_2 15001 = (if 2 = 0 then p0 else nI (txS x L e)) := eσ_2_b
      have hcTX_σ_2 : TX 15600 σ_2 L x := by exact TX.fr hcTX_σ_1 (fun a ha hb => eσ_2_c a (by first | omega | (simp only [vb] at *; omega)))
      have hcFR_σ_2 : ∀ a, (a ≠ 15000 ∧ a ≠ 15001 ∧ (a < 15003 ∨ 15005 < a)) → σ_2 a = σ a := by intro a ha; exact Eq.trans (b := σ_1 a) (eσ_2_c a (by first | omega | (simp only [vb] at *; omega))) (hcFR_σ_1 a ha)
      exact g_vret h hQ dX7_expect_33 rfl (by exact ⟨(by first | exact ht15002_σ_2 | assumption | fail), (by first | exact ht15003_σ_2 | assumption | fail), (by first | exact ht15004_σ_2 | assumption | fail), (by first | exact ht15005_σ_2 | assumption | fail), (by rw [hF]; exact ht15000_σ_2), (by rw [hF]; first | exact ht15001_σ_2 | exact (ht15001_σ_2).trans (if_pos rfl).symm), (by first | exact hcTX_σ_2 | assumption | fail), (by exact hcFR_σ_2)⟩)
  ·
    have hF : (tf9 (txK x L e) wq) = 1 := by unfold tf9; rw [if_neg (by omega), if_pos (by omega)]
    refine g_aload_n h dX7_expect_12 0 rfl ?_
    refine g_iconst h dX7_expect_13 (by decide) ?_
    refine g_cvv (rest := []) h (c_finds hW 1 (txS x L e) p0 (by first | omega | exact AF_lt | exact tf9_lt | assumption | fail) (by first | exact ht15000_σ_1 | assumption | fail) (by first | exact ht15001_σ_1 | assumption | fail) (by first | exact ht15004_σ_1 | assumption | fail)) lX7_finds mX7_66 (Nat.lt_of_lt_of_le (by decide) (Nat.le_refl _)) (by decide) sc_15 rfl rfl rfl rfl dX7_expect_14 (fun σ_3 eσ_3 => ?_)
    obtain ⟨eσ_3_a, eσ_3_b, eσ_3_c⟩ := eσ_3
    have eσ_3_a : σ_3 15000 = (nI 1) := eσ_3_a
    have eσ_3_b : σ_3 15001 = (if 1 = 0 then p0 else nI (txS x L e)) := eσ_3_b
    have eσ_3_c : ∀ a, (a ≠ 15000 ∧ a ≠ 15001) → σ_3 a = σ_1 a := eσ_3_c
    have ht15002_σ_3 : σ_3 15002 = (nI L) := by rw [eσ_3_c _ (by first | omega | (simp only [vb] at *; omega))]; first | exact ht15002_σ_1 | assumption
    have ht15003_σ_3 : σ_3 15003 = (nI (txK x L e)) := by rw [eσ_3_c _ (by first | omega | (simp only [vb] at *; omega))]; first | exact ht15003_σ_1 | assumption
    have ht15004_σ_3 : σ_3 15004 = (nI (txS x L e)) := by rw [eσ_3_c _ (by first | omega | (simp only [vb] at *; omega))]; first | exact ht15004_σ_1 | assumption
    have ht15005_σ_3 : σ_3 15005 = (nI (txE x L e)) := by rw [eσ_3_c _ (by first | omega | (simp only [vb] at *; omega))]; first | exact ht15005_σ_1 | assumption
    have ht15000_σ_3 : σ_3 15000 = (nI 1) := eσ_3_a
    have ht15001_σ_3 : σ_3 15001 = (if 1 = 0 then p0 else nI (txS x L e)) := eσ_3_b
    have hcTX_σ_3 : TX 15600 σ_3 L x := by exact TX.fr hcTX_σ_1 (fun a ha hb => eσ_3_c a (by first | omega | (simp only [vb] at *; omega)))
    have hcFR_σ_3 : ∀ a, (a ≠ 15000 ∧ a ≠ 15001 ∧ (a < 15003 ∨ 15005 < a)) → σ_3 a = σ a := by intro a ha; exact Eq.trans (b := σ_1 a) (eσ_3_c a (by first | omega | (simp only [vb] at *; omega))) (hcFR_σ_1 a ha)
    refine g_goto h dX7_expect_17 ?_
    exact g_vret h hQ dX7_expect_33 rfl (by exact ⟨(by first | exact ht15002_σ_3 | assumption | fail), (by first | exact ht15003_σ_3 | assumption | fail), (by first | exact ht15004_σ_3 | assumption | fail), (by first | exact ht15005_σ_3 | assumption | fail), (by rw [hF]; exact ht15000_σ_3), (by rw [hF]; first | exact ht15001_σ_3 | exact (ht15001_σ_3).trans (if_pos rfl).symm), (by first | exact hcTX_σ_3 | assumption | fail), (by exact hcFR_σ_3)⟩)

set_option maxRecDepth 100000 in
set_option maxHeartbeats 4000000 in
theorem c_numberHere {l : Launch} {w : Wd} (hW : Wi w) {σ : Mem} (e L : Nat) (x : Nat → Nat) (he : e ≤ L) (hL : L ≤ 400) (hK : txK x L e = 2) (ht15002_σ : σ 15002 = (nI L)) (ht15004_σ : σ 15004 = (nI (txS x L e))) (ht15005_σ : σ 15005 = (nI (txE x L e))) (hcTX_σ : TX 15600 σ L x) : MC l w qX7_numberHere 0 [.ref (w.1 15)] σ (some (.int (nI (txV x L e)))) (fun σ' => σ' = σ) := by
  refine MC.of hW (by decide +kernel) (Nat.le_of_ble_eq_true rfl) (fun X h hQ hnm => ?_)
  have h : Fx X w cX7_numberHere 3 RX7 0 := h
  have hQ : Qx X w (some .int) (some (.int (nI (txV x L e)))) (fun σ' => σ' = σ) := hQ
  have hb := tx_b (x := x) he
  obtain ⟨hd1, hd2, hd3⟩ := txK_2 hK
  show G X w 3 0 [(0, .ref (w.1 15))] [] σ
  refine g_iconst h dX7_numberHere_0 (by decide) ?_
  refine g_istore_n (L' := [(0, .ref (w.1 15)), (1, .int (nI 0))]) h dX7_numberHere_1 rfl (by decide) rfl ?_
  refine g_aload_n h dX7_numberHere_2 0 rfl ?_
  refine g_geti h dX7_numberHere_3 gX7_100 sc_15 rfl ?_
  refine g_top (y := (nI (txS x L e))) (by first | exact ht15004_σ | assumption) ?_
  refine g_istore_n (L' := [(0, .ref (w.1 15)), (1, .int (nI 0)), (2, .int (nI (txS x L e)))]) h dX7_numberHere_6 rfl (by decide) rfl ?_
  have lp7 : ∀ (k9 : Nat) (v : Nat) (i : Nat), (txS x L e ≤ i) → (i ≤ txE x L e) → (v = txD x (txS x L e) (i - txS x L e)) → txE x L e - i < k9 → G X w 3 7 [(0, .ref (w.1 15)), (1, .int (nI v)), (2, .int (nI i))] [] σ := by
    intro k9
    induction k9 with
    | zero => intro v i hi1 hi2 hv9 hm9; exact absurd hm9 (Nat.not_lt_zero _)
    | succ k9 ih7 =>
      intro v i hi1 hi2 hv9 hm7
      have hlt := txD_lt (x := x) (s := txS x L e) (i - txS x L e) (by omega) (fun k k1 k2 => hd3 k k1 (by omega))
      rw [← hv9] at hlt
      have hp9 : 10 ^ (i - txS x L e) ≤ 1000 := Nat.pow_le_pow_right (by decide) (show i - txS x L e ≤ 3 by omega)
      refine g_iload_n h dX7_numberHere_7 2 rfl ?_
      refine g_aload_n h dX7_numberHere_8 0 rfl ?_
      refine g_geti h dX7_numberHere_9 gX7_43 sc_15 rfl ?_
      refine g_top (y := (nI (txE x L e))) (by first | exact ht15005_σ | assumption) ?_
      refine g_icmpN_ge h dX7_numberHere_12 (by omega) (by omega) (fun c12 => ?_) (fun c12 => ?_)
      ·
        refine g_iload_n h dX7_numberHere_44 1 rfl ?_
        exact g_iret h hQ dX7_numberHere_45 (congrArg (fun z => some (Value.int z)) (show (nI (txV x L e)) = (nI v) by rw [hv9, show i = txE x L e from by omega]; rfl)) rfl
      ·
        refine g_iload_n h dX7_numberHere_15 2 rfl ?_
        refine g_aload_n h dX7_numberHere_16 0 rfl ?_
        refine g_geti h dX7_numberHere_17 gX7_25 sc_15 rfl ?_
        refine g_top (y := (nI L)) (by first | exact ht15002_σ | assumption) ?_
        refine g_icmpN_ge h dX7_numberHere_20 (by omega) (by omega) (fun c20 => ?_) (fun c20 => ?_)
        ·
          refine g_iload_n h dX7_numberHere_44 1 rfl ?_
          exact g_iret h hQ dX7_numberHere_45 (congrArg (fun z => some (Value.int z)) (show (nI (txV x L e)) = (nI v) by rw [hv9, show i = txE x L e from by omega]; rfl)) rfl
        ·
          have hdg := dg_i (hd3 i (by omega) (by omega))
          refine g_iload_n h dX7_numberHere_23 1 rfl ?_
          refine g_bipush h dX7_numberHere_24 (by decide) ?_
          refine g_imulN h dX7_numberHere_26  ?_
          refine g_aload_n h dX7_numberHere_27 0 rfl ?_
          refine g_getr h dX7_numberHere_28 gX7_9 sc_15 rfl ?_
          refine g_iload_n h dX7_numberHere_31 2 rfl ?_
          refine g_bald h dX7_numberHere_32 sc_16 (by omega) ?_
          refine g_top (y := (nI (x i))) ((hcTX_σ i (by omega)).2.trans (by8_lo (by omega))) ?_
          refine g_iaddN h dX7_numberHere_33  ?_
          refine g_bipush h dX7_numberHere_34 (by decide) ?_
          refine g_isubN h dX7_numberHere_36 (by omega) ?_
          refine g_istore_n (L' := [(0, .ref (w.1 15)), (1, .int (nI ((v * 10 + x i) - 48))), (2, .int (nI i))]) h dX7_numberHere_37 rfl (by decide) rfl ?_
          refine g_iincN (b := 1) (L' := [(0, .ref (w.1 15)), (1, .int (nI ((v * 10 + x i) - 48))), (2, .int (nI (i + 1)))]) h dX7_numberHere_38 2 rfl rfl (by decide) (by decide) rfl ?_
          refine g_goto h dX7_numberHere_41 ?_
          exact ih7 ((v * 10 + x i) - 48) (i + 1) (by omega) (by omega) (by rw [show i + 1 - txS x L e = (i - txS x L e) + 1 from by omega, txD_s (by omega) (fun k k1 k2 => hd3 k k1 (by omega)), ← hv9, show txS x L e + (i - txS x L e) = i from by omega]) (by omega)
  exact lp7 (_) 0 (txS x L e) (by omega) (by omega) (by rw [Nat.sub_self]; rfl) (Nat.lt_succ_self _)

set_option maxRecDepth 100000 in
set_option maxHeartbeats 4000000 in
theorem c_spells {l : Launch} {w : Wd} (hW : Wi w) {σ : Mem} (i : Nat) (e L : Nat) (x : Nat → Nat) (he : e ≤ L) (hL : L ≤ 400) (hi8 : i < 8) (ht15002_σ : σ 15002 = (nI L)) (ht15004_σ : σ 15004 = (nI (txS x L e))) (ht15005_σ : σ 15005 = (nI (txE x L e))) (hcTX_σ : TX 15600 σ L x) : MC l w qX7_spells 4 [.ref (w.1 15), .ref (w.2.2.2.1 i)] σ (some (.int (b2i (eqW x (txS x L e) (txE x L e - txS x L e) i)))) (fun σ' => σ' = σ) := by
  refine MC.of hW (by decide +kernel) (Nat.le_of_ble_eq_true rfl) (fun X h hQ hnm => ?_)
  have h : Fx X w cX7_spells 3 RX7 4 := h
  have hQ : Qx X w (some .boolean) (some (.int (b2i (eqW x (txS x L e) (txE x L e - txS x L e) i)))) (fun σ' => σ' = σ) := hQ
  have hb := tx_b (x := x) he
  have hsl := sl_i (i := i) (by omega)
  show G X w 3 0 [(0, .ref (w.1 15)), (1, .ref (w.2.2.2.1 i))] [] σ
  refine g_aload_n h dX7_spells_0 0 rfl ?_
  refine g_geti h dX7_spells_1 gX7_43 sc_15 rfl ?_
  refine g_top (y := (nI (txE x L e))) (by first | exact ht15005_σ | assumption) ?_
  refine g_aload_n h dX7_spells_4 0 rfl ?_
  refine g_geti h dX7_spells_5 gX7_100 sc_15 rfl ?_
  refine g_top (y := (nI (txS x L e))) (by first | exact ht15004_σ | assumption) ?_
  refine g_isubN h dX7_spells_8 (by omega) ?_
  refine g_aload_n h dX7_spells_9 1 rfl ?_
  refine g_cSpi (rest := [.int (nI ((txE x L e) - (txS x L e)))]) h (j_length hW i (by first | decide | omega | fail)) lJ0_length_8abf5 mX7_110 (Nat.lt_of_lt_of_le (by decide) (Nat.le_refl _)) (by decide) (by first | decide | omega) rfl rfl rfl rfl dX7_spells_10 ?_
  refine g_icmpN_eq h dX7_spells_13 (by omega) (by omega) (fun c13 => ?_) (fun c13 => ?_)
  ·
    refine g_iconst h dX7_spells_18 (by decide) ?_
    refine g_istore_n (L' := [(0, .ref (w.1 15)), (1, .ref (w.2.2.2.1 i)), (2, .int (nI 0))]) h dX7_spells_19 rfl (by decide) rfl ?_
    have lp20 : ∀ (k9 : Nat) (j : Nat), (j ≤ sl i) → (∀ q, q < j → x (txS x L e + q) = sc i q) → sl i - j < k9 → G X w 3 20 [(0, .ref (w.1 15)), (1, .ref (w.2.2.2.1 i)), (2, .int (nI j))] [] σ := by
      intro k9
      induction k9 with
      | zero => intro j hj hq9 hm9; exact absurd hm9 (Nat.not_lt_zero _)
      | succ k9 ih20 =>
        intro j hj hq9 hm20
        refine g_iload_n h dX7_spells_20 2 rfl ?_
        refine g_aload_n h dX7_spells_21 1 rfl ?_
        refine g_cSpi (rest := [.int (nI j)]) h (j_length hW i (by first | decide | omega | fail)) lJ0_length_8abf5 mX7_110 (Nat.lt_of_lt_of_le (by decide) (Nat.le_refl _)) (by decide) (by first | decide | omega) rfl rfl rfl rfl dX7_spells_22 ?_
        refine g_icmpN_ge h dX7_spells_25 (by omega) (by omega) (fun c25 => ?_) (fun c25 => ?_)
        ·
          refine g_iconst h dX7_spells_55 (by decide) ?_
          exact g_zret h hQ dX7_spells_56 (show narrow .boolean (.int (b2i true)) = .int (b2i true) from narrow_b2i _) (congrArg (fun z => some (Value.int (b2i z))) (show (eqW x (txS x L e) (txE x L e - txS x L e) i) = true by first | exact eqW_len c13 | exact eqW_ch (by omega) (fun z => c44 ((by8_eq (hcTX_σ (txS x L e + j) (by omega)).1 hs9.1).mpr z)) | exact eqW_y c13 (fun q hq => hq9 q (by omega)) | fail)) rfl
        ·
          have hs9 := sc_i (i := i) (j := j) (by omega) (by omega)
          refine g_aload_n h dX7_spells_28 0 rfl ?_
          refine g_getr h dX7_spells_29 gX7_9 sc_15 rfl ?_
          refine g_aload_n h dX7_spells_32 0 rfl ?_
          refine g_geti h dX7_spells_33 gX7_100 sc_15 rfl ?_
          refine g_top (y := (nI (txS x L e))) (by first | exact ht15004_σ | assumption) ?_
          refine g_iload_n h dX7_spells_36 2 rfl ?_
          refine g_iaddN h dX7_spells_37  ?_
          refine g_bald h dX7_spells_38 sc_16 (by omega) ?_
          refine g_top (y := (by8 (x (txS x L e + j)))) ((hcTX_σ (txS x L e + j) (by omega)).2) ?_
          refine g_aload_n h dX7_spells_39 1 rfl ?_
          refine g_iload_n h dX7_spells_40 2 rfl ?_
          refine g_cSpi (rest := [.int (by8 (x (txS x L e + j)))]) h (j_charAt hW i j (by first | decide | omega | fail) (by omega)) lJ0_charAt_5068e mX7_114 (Nat.lt_of_lt_of_le (by decide) (Nat.le_refl _)) (by decide) (by first | decide | omega) rfl rfl rfl rfl dX7_spells_41 ?_
          refine g_icmp_eq h dX7_spells_44 (fun c44 => ?_) (fun c44 => ?_)
          ·
            refine g_iincN (b := 1) (L' := [(0, .ref (w.1 15)), (1, .ref (w.2.2.2.1 i)), (2, .int (nI (j + 1)))]) h dX7_spells_49 2 rfl rfl (by decide) (by decide) rfl ?_
            refine g_goto h dX7_spells_52 ?_
            exact ih20 (j + 1) (by omega) (by intro q hq; exact if e9 : q = j then (by rw [e9]; exact (by8_eq (hcTX_σ (txS x L e + j) (by omega)).1 hs9.1).mp c44) else hq9 q (by omega)) (by omega)
          ·
            refine g_iconst h dX7_spells_47 (by decide) ?_
            exact g_zret h hQ dX7_spells_48 (show narrow .boolean (.int (b2i false)) = .int (b2i false) from narrow_b2i _) (congrArg (fun z => some (Value.int (b2i z))) (show (eqW x (txS x L e) (txE x L e - txS x L e) i) = false by first | exact eqW_len c13 | exact eqW_ch (by omega) (fun z => c44 ((by8_eq (hcTX_σ (txS x L e + j) (by omega)).1 hs9.1).mpr z)) | exact eqW_y c13 (fun q hq => hq9 q (by omega)) | fail)) rfl
    exact lp20 (_) 0 (by omega) (by intro q hq; omega) (Nat.lt_succ_self _)
  ·
    refine g_iconst h dX7_spells_16 (by decide) ?_
    exact g_zret h hQ dX7_spells_17 (show narrow .boolean (.int (b2i false)) = .int (b2i false) from narrow_b2i _) (congrArg (fun z => some (Value.int (b2i z))) (show (eqW x (txS x L e) (txE x L e - txS x L e) i) = false by first | exact eqW_len c13 | exact eqW_ch (by omega) (fun z => c44 ((by8_eq (hcTX_σ (txS x L e + j) (by omega)).1 hs9.1).mpr z)) | exact eqW_y c13 (fun q hq => hq9 q (by omega)) | fail)) rfl

def lkN (o : Option Nat) : Nat := match o with
  | none => 0
  | some k => k + 1
theorem lk_or (o : Option Nat) : (o = none ∧ lkN o = 0) ∨ ∃ k, o = some k ∧ lkN o = k + 1 := by
  cases o with
  | none => exact Or.inl ⟨rfl, rfl⟩
  | some k => exact Or.inr ⟨k, rfl, rfl⟩

set_option maxRecDepth 100000 in
set_option maxHeartbeats 4000000 in
theorem c_lineKind {l : Launch} {w : Wd} (hW : Wi w) {σ : Mem} (e L : Nat) (x : Nat → Nat) (he : e ≤ L) (hL : L ≤ 400) (ht15002_σ : σ 15002 = (nI L)) (ht15004_σ : σ 15004 = (nI (txS x L e))) (ht15005_σ : σ 15005 = (nI (txE x L e))) (hcTX_σ : TX 15600 σ L x) : MC l w qX7_lineKind 5 [.ref (w.1 15)] σ (some (.int (nI (lkN (txW x L e))))) (fun σ' => σ' = σ) := by
  refine MC.of hW (by decide +kernel) (Nat.le_of_ble_eq_true rfl) (fun X h hQ hnm => ?_)
  have h : Fx X w cX7_lineKind 1 RX7 5 := h
  have hQ : Qx X w (some .int) (some (.int (nI (lkN (txW x L e))))) (fun σ' => σ' = σ) := hQ
  show G X w 1 0 [(0, .ref (w.1 15))] [] σ
  refine g_aload_n h dX7_lineKind_0 0 rfl ?_
  refine g_ldcS (i := 0) h dX7_lineKind_1 (by decide) rfl rfl ?_
  refine g_cvpi (rest := []) h (c_spells hW 0 e L x (by first | omega | assumption | fail) (by first | omega | assumption | fail) (by first | decide | omega | fail) (by first | exact ht15002_σ | assumption | fail) (by first | exact ht15004_σ | assumption | fail) (by first | exact ht15005_σ | assumption | fail) (by first | exact hcTX_σ | assumption | fail)) lX7_spells mX7_120 (Nat.lt_of_lt_of_le (by decide) (Nat.le_refl _)) (by decide) sc_15 rfl rfl rfl rfl dX7_lineKind_3 ?_
  refine g_ifB_eq h dX7_lineKind_6 (fun c6 => ?_) (fun c6 => ?_)
  ·
    refine g_aload_n h dX7_lineKind_11 0 rfl ?_
    refine g_ldcS (i := 1) h dX7_lineKind_12 (by decide) rfl rfl ?_
    refine g_cvpi (rest := []) h (c_spells hW 1 e L x (by first | omega | assumption | fail) (by first | omega | assumption | fail) (by first | decide | omega | fail) (by first | exact ht15002_σ | assumption | fail) (by first | exact ht15004_σ | assumption | fail) (by first | exact ht15005_σ | assumption | fail) (by first | exact hcTX_σ | assumption | fail)) lX7_spells mX7_120 (Nat.lt_of_lt_of_le (by decide) (Nat.le_refl _)) (by decide) sc_15 rfl rfl rfl rfl dX7_lineKind_14 ?_
    refine g_ifB_eq h dX7_lineKind_17 (fun c17 => ?_) (fun c17 => ?_)
    ·
      refine g_aload_n h dX7_lineKind_22 0 rfl ?_
      refine g_ldcS (i := 2) h dX7_lineKind_23 (by decide) rfl rfl ?_
      refine g_cvpi (rest := []) h (c_spells hW 2 e L x (by first | omega | assumption | fail) (by first | omega | assumption | fail) (by first | decide | omega | fail) (by first | exact ht15002_σ | assumption | fail) (by first | exact ht15004_σ | assumption | fail) (by first | exact ht15005_σ | assumption | fail) (by first | exact hcTX_σ | assumption | fail)) lX7_spells mX7_120 (Nat.lt_of_lt_of_le (by decide) (Nat.le_refl _)) (by decide) sc_15 rfl rfl rfl rfl dX7_lineKind_25 ?_
      refine g_ifB_eq h dX7_lineKind_28 (fun c28 => ?_) (fun c28 => ?_)
      ·
        refine g_aload_n h dX7_lineKind_33 0 rfl ?_
        refine g_ldcS (i := 3) h dX7_lineKind_34 (by decide) rfl rfl ?_
        refine g_cvpi (rest := []) h (c_spells hW 3 e L x (by first | omega | assumption | fail) (by first | omega | assumption | fail) (by first | decide | omega | fail) (by first | exact ht15002_σ | assumption | fail) (by first | exact ht15004_σ | assumption | fail) (by first | exact ht15005_σ | assumption | fail) (by first | exact hcTX_σ | assumption | fail)) lX7_spells mX7_120 (Nat.lt_of_lt_of_le (by decide) (Nat.le_refl _)) (by decide) sc_15 rfl rfl rfl rfl dX7_lineKind_36 ?_
        refine g_ifB_eq h dX7_lineKind_39 (fun c39 => ?_) (fun c39 => ?_)
        ·
          refine g_aload_n h dX7_lineKind_44 0 rfl ?_
          refine g_ldcS (i := 4) h dX7_lineKind_45 (by decide) rfl rfl ?_
          refine g_cvpi (rest := []) h (c_spells hW 4 e L x (by first | omega | assumption | fail) (by first | omega | assumption | fail) (by first | decide | omega | fail) (by first | exact ht15002_σ | assumption | fail) (by first | exact ht15004_σ | assumption | fail) (by first | exact ht15005_σ | assumption | fail) (by first | exact hcTX_σ | assumption | fail)) lX7_spells mX7_120 (Nat.lt_of_lt_of_le (by decide) (Nat.le_refl _)) (by decide) sc_15 rfl rfl rfl rfl dX7_lineKind_47 ?_
          refine g_ifB_eq h dX7_lineKind_50 (fun c50 => ?_) (fun c50 => ?_)
          ·
            refine g_aload_n h dX7_lineKind_55 0 rfl ?_
            refine g_ldcS (i := 5) h dX7_lineKind_56 (by decide) rfl rfl ?_
            refine g_cvpi (rest := []) h (c_spells hW 5 e L x (by first | omega | assumption | fail) (by first | omega | assumption | fail) (by first | decide | omega | fail) (by first | exact ht15002_σ | assumption | fail) (by first | exact ht15004_σ | assumption | fail) (by first | exact ht15005_σ | assumption | fail) (by first | exact hcTX_σ | assumption | fail)) lX7_spells mX7_120 (Nat.lt_of_lt_of_le (by decide) (Nat.le_refl _)) (by decide) sc_15 rfl rfl rfl rfl dX7_lineKind_58 ?_
            refine g_ifB_eq h dX7_lineKind_61 (fun c61 => ?_) (fun c61 => ?_)
            ·
              refine g_aload_n h dX7_lineKind_67 0 rfl ?_
              refine g_ldcS (i := 6) h dX7_lineKind_68 (by decide) rfl rfl ?_
              refine g_cvpi (rest := []) h (c_spells hW 6 e L x (by first | omega | assumption | fail) (by first | omega | assumption | fail) (by first | decide | omega | fail) (by first | exact ht15002_σ | assumption | fail) (by first | exact ht15004_σ | assumption | fail) (by first | exact ht15005_σ | assumption | fail) (by first | exact hcTX_σ | assumption | fail)) lX7_spells mX7_120 (Nat.lt_of_lt_of_le (by decide) (Nat.le_refl _)) (by decide) sc_15 rfl rfl rfl rfl dX7_lineKind_70 ?_
              refine g_ifB_eq h dX7_lineKind_73 (fun c73 => ?_) (fun c73 => ?_)
              ·
                refine g_aload_n h dX7_lineKind_79 0 rfl ?_
                refine g_ldcS (i := 7) h dX7_lineKind_80 (by decide) rfl rfl ?_
                refine g_cvpi (rest := []) h (c_spells hW 7 e L x (by first | omega | assumption | fail) (by first | omega | assumption | fail) (by first | decide | omega | fail) (by first | exact ht15002_σ | assumption | fail) (by first | exact ht15004_σ | assumption | fail) (by first | exact ht15005_σ | assumption | fail) (by first | exact hcTX_σ | assumption | fail)) lX7_spells mX7_120 (Nat.lt_of_lt_of_le (by decide) (Nat.le_refl _)) (by decide) sc_15 rfl rfl rfl rfl dX7_lineKind_82 ?_
                refine g_ifB_eq h dX7_lineKind_85 (fun c85 => ?_) (fun c85 => ?_)
                ·
                  refine g_iconst h dX7_lineKind_93 (by decide) ?_
                  exact g_iret h hQ dX7_lineKind_94 (congrArg (fun z => some (Value.int z)) (show (nI (lkN (txW x L e))) = (nI 0) by first | rfl | (simp [txW, lkN, fs, c6, c17, c28, c39, c50, c61, c73, c85]; done) | fail)) rfl
                ·
                  refine g_bipush h dX7_lineKind_88 (by decide) ?_
                  refine g_goto h dX7_lineKind_90 ?_
                  exact g_iret h hQ dX7_lineKind_94 (congrArg (fun z => some (Value.int z)) (show (nI (lkN (txW x L e))) = (nI 8) by first | rfl | (simp [txW, lkN, fs, c6, c17, c28, c39, c50, c61, c73, c85]; done) | fail)) rfl
              ·
                refine g_bipush h dX7_lineKind_76 (by decide) ?_
                exact g_iret h hQ dX7_lineKind_78 (congrArg (fun z => some (Value.int z)) (show (nI (lkN (txW x L e))) = (nI 7) by first | rfl | (simp [txW, lkN, fs, c6, c17, c28, c39, c50, c61, c73]; done) | fail)) rfl
            ·
              refine g_bipush h dX7_lineKind_64 (by decide) ?_
              exact g_iret h hQ dX7_lineKind_66 (congrArg (fun z => some (Value.int z)) (show (nI (lkN (txW x L e))) = (nI 6) by first | rfl | (simp [txW, lkN, fs, c6, c17, c28, c39, c50, c61]; done) | fail)) rfl
          ·
            refine g_iconst h dX7_lineKind_53 (by decide) ?_
            exact g_iret h hQ dX7_lineKind_54 (congrArg (fun z => some (Value.int z)) (show (nI (lkN (txW x L e))) = (nI 5) by first | rfl | (simp [txW, lkN, fs, c6, c17, c28, c39, c50]; done) | fail)) rfl
        ·
          refine g_iconst h dX7_lineKind_42 (by decide) ?_
          exact g_iret h hQ dX7_lineKind_43 (congrArg (fun z => some (Value.int z)) (show (nI (lkN (txW x L e))) = (nI 4) by first | rfl | (simp [txW, lkN, fs, c6, c17, c28, c39]; done) | fail)) rfl
      ·
        refine g_iconst h dX7_lineKind_31 (by decide) ?_
        exact g_iret h hQ dX7_lineKind_32 (congrArg (fun z => some (Value.int z)) (show (nI (lkN (txW x L e))) = (nI 3) by first | rfl | (simp [txW, lkN, fs, c6, c17, c28]; done) | fail)) rfl
    ·
      refine g_iconst h dX7_lineKind_20 (by decide) ?_
      exact g_iret h hQ dX7_lineKind_21 (congrArg (fun z => some (Value.int z)) (show (nI (lkN (txW x L e))) = (nI 2) by first | rfl | (simp [txW, lkN, fs, c6, c17]; done) | fail)) rfl
  ·
    refine g_iconst h dX7_lineKind_9 (by decide) ?_
    exact g_iret h hQ dX7_lineKind_10 (congrArg (fun z => some (Value.int z)) (show (nI (lkN (txW x L e))) = (nI 1) by first | rfl | (simp [txW, lkN, fs, c6]; done) | fail)) rfl
