set_option maxRecDepth 100000 in
set_option maxHeartbeats 4000000 in
theorem r_isFrom {l : Launch} {w : Wd} (hW : Wi w) {σ : Mem} (v a b : Int32)  : MC l w qX12_isFrom 0 [.int v, .int a, .int b] σ (some (.int (b2i (decide (a ≤ v) && decide (v ≤ b))))) (fun σ' => σ' = σ) := by
  refine MC.of hW (by decide +kernel) (Nat.le_of_ble_eq_true rfl) (fun X h hQ hnm => ?_)
  have h : Fx X w cX12_isFrom 3 RX12 0 := h
  have hQ : Qx X w (some .boolean) (some (.int (b2i (decide (a ≤ v) && decide (v ≤ b))))) (fun σ' => σ' = σ) := hQ
  show G X w 3 0 [(0, .int v), (1, .int a), (2, .int b)] [] σ
  refine g_iload_n h dX12_isFrom_0 0 rfl ?_
  refine g_iload_n h dX12_isFrom_1 1 rfl ?_
  refine g_icmp_lt h dX12_isFrom_2 (fun c2 => ?_) (fun c2 => ?_)
  ·
    refine g_iconst h dX12_isFrom_14 (by decide) ?_
    exact g_zret h hQ dX12_isFrom_15 (show narrow .boolean (.int (b2i false)) = .int (b2i false) from narrow_b2i _) (congrArg (fun z => some (Value.int (b2i z))) (show (decide (a ≤ v) && decide (v ≤ b)) = false by first | simp [Int32.not_le.mpr c7] | simp [Int32.not_le.mpr c2] | simp [Int32.not_lt.mp c2, Int32.not_lt.mp c7])) rfl
  ·
    refine g_iload_n h dX12_isFrom_5 0 rfl ?_
    refine g_iload_n h dX12_isFrom_6 2 rfl ?_
    refine g_icmp_gt h dX12_isFrom_7 (fun c7 => ?_) (fun c7 => ?_)
    ·
      refine g_iconst h dX12_isFrom_14 (by decide) ?_
      exact g_zret h hQ dX12_isFrom_15 (show narrow .boolean (.int (b2i false)) = .int (b2i false) from narrow_b2i _) (congrArg (fun z => some (Value.int (b2i z))) (show (decide (a ≤ v) && decide (v ≤ b)) = false by first | simp [Int32.not_le.mpr c7] | simp [Int32.not_le.mpr c2] | simp [Int32.not_lt.mp c2, Int32.not_lt.mp c7])) rfl
    ·
      refine g_iconst h dX12_isFrom_10 (by decide) ?_
      refine g_goto h dX12_isFrom_11 ?_
      exact g_zret h hQ dX12_isFrom_15 (show narrow .boolean (.int (b2i true)) = .int (b2i true) from narrow_b2i _) (congrArg (fun z => some (Value.int (b2i z))) (show (decide (a ≤ v) && decide (v ≤ b)) = true by first | simp [Int32.not_le.mpr c7] | simp [Int32.not_le.mpr c2] | simp [Int32.not_lt.mp c2, Int32.not_lt.mp c7])) rfl

set_option maxRecDepth 100000 in
set_option maxHeartbeats 4000000 in
theorem r_has {l : Launch} {w : Wd} (hW : Wi w) {σ : Mem} (s : Int32) (k : Nat) (hk : k < 32) : MC l w qX12_has 0 [.int s, .int (nI k)] σ (some (.int (b2i (tb s k)))) (fun σ' => σ' = σ) := by
  refine MC.of hW (by decide +kernel) (Nat.le_of_ble_eq_true rfl) (fun X h hQ hnm => ?_)
  have h : Fx X w cX12_has 2 RX12 0 := h
  have hQ : Qx X w (some .boolean) (some (.int (b2i (tb s k)))) (fun σ' => σ' = σ) := hQ
  show G X w 2 0 [(0, .int s), (1, .int (nI k))] [] σ
  refine g_iload_n h dX12_has_0 0 rfl ?_
  refine g_iload_n h dX12_has_1 1 rfl ?_
  refine g_ishr h dX12_has_2  ?_
  refine g_iconst h dX12_has_3 (by decide) ?_
  refine g_iand h dX12_has_4  ?_
  refine g_top (y := (b2i (tb s k))) (has_eq hk) ?_
  refine g_iconst h dX12_has_5 (by decide) ?_
  refine g_icmpB_ne (p := (tb s k)) (q := true) h dX12_has_6 (fun c6 => ?_) (fun c6 => ?_)
  ·
    refine g_iconst h dX12_has_13 (by decide) ?_
    exact g_zret h hQ dX12_has_14 (show narrow .boolean (.int (b2i false)) = .int (b2i false) from narrow_b2i _) (congrArg (fun z => some (Value.int (b2i z))) (show (tb s k) = false by first | exact c6 | simpa using c6)) rfl
  ·
    refine g_iconst h dX12_has_9 (by decide) ?_
    refine g_goto h dX12_has_10 ?_
    exact g_zret h hQ dX12_has_14 (show narrow .boolean (.int (b2i true)) = .int (b2i true) from narrow_b2i _) (congrArg (fun z => some (Value.int (b2i z))) (show (tb s k) = true by first | exact c6 | simpa using c6)) rfl

set_option maxRecDepth 100000 in
set_option maxHeartbeats 4000000 in
theorem r_ofr {l : Launch} {w : Wd} (hW : Wi w) {σ : Mem} (k : Nat) (hk : k < 3168) : MC l w qX12_of 0 [.ref (w.1 0), .int (nI k)] σ (some (.int (σ (0 + k)))) (fun σ' => σ' = σ) := by
  refine MC.of hW (by decide +kernel) (Nat.le_of_ble_eq_true rfl) (fun X h hQ hnm => ?_)
  have h : Fx X w cX12_of 2 RX12 0 := h
  have hQ : Qx X w (some .int) (some (.int (σ (0 + k)))) (fun σ' => σ' = σ) := hQ
  show G X w 2 0 [(0, .ref (w.1 0)), (1, .int (nI k))] [] σ
  refine g_aload_n h dX12_of_0 0 rfl ?_
  refine g_getr h dX12_of_1 gX12_7 sc_0 rfl ?_
  refine g_iload_n h dX12_of_4 1 rfl ?_
  refine g_iald h dX12_of_5 sc_1 (by omega) ?_
  exact g_iret h hQ dX12_of_6 rfl rfl

set_option maxRecDepth 100000 in
set_option maxHeartbeats 4000000 in
theorem r_of {l : Launch} {w : Wd} (hW : Wi w) {σ : Mem} (k : Nat) (μ : Nat → Int32) (hv : vw 0 σ = μ) (hk : k < 464 ∧ k ≠ 10) : MC l w qX12_of 0 [.ref (w.1 0), .int (nI k)] σ (some (.int (μ k))) (fun σ' => σ' = σ) := by
  refine MC.of hW (by decide +kernel) (Nat.le_of_ble_eq_true rfl) (fun X h hQ hnm => ?_)
  have h : Fx X w cX12_of 2 RX12 0 := h
  have hQ : Qx X w (some .int) (some (.int (μ k))) (fun σ' => σ' = σ) := hQ
  show G X w 2 0 [(0, .ref (w.1 0)), (1, .int (nI k))] [] σ
  refine g_aload_n h dX12_of_0 0 rfl ?_
  refine g_getr h dX12_of_1 gX12_7 sc_0 rfl ?_
  refine g_iload_n h dX12_of_4 1 rfl ?_
  refine g_iald h dX12_of_5 sc_1 (by omega) ?_
  exact g_iret h hQ dX12_of_6 (congrArg (fun z => some (Value.int z)) (show (μ k) = (σ (0 + k)) by rw [← hv]; exact vw_at' hk)) rfl

set_option maxRecDepth 100000 in
set_option maxHeartbeats 4000000 in
theorem r_puts {l : Launch} {w : Wd} (hW : Wi w) {σ : Mem} (k : Nat) (v : Int32) (hk : k < 3168) : MC l w qX12_puts 0 [.ref (w.1 0), .int (nI k), .int v] σ none (fun σ' => (σ' = upd σ (0 + k) v)) := by
  refine MC.of hW (by decide +kernel) (Nat.le_of_ble_eq_true rfl) (fun X h hQ hnm => ?_)
  have h : Fx X w cX12_puts 3 RX12 0 := h
  have hQ : Qx X w none none (fun σ' => (σ' = upd σ (0 + k) v)) := hQ
  show G X w 3 0 [(0, .ref (w.1 0)), (1, .int (nI k)), (2, .int v)] [] σ
  refine g_aload_n h dX12_puts_0 0 rfl ?_
  refine g_getr h dX12_puts_1 gX12_7 sc_0 rfl ?_
  refine g_iload_n h dX12_puts_4 1 rfl ?_
  refine g_iload_n h dX12_puts_5 2 rfl ?_
  refine g_iast h dX12_puts_6 sc_1 (by omega) ?_
  refine g_nm (fun σ_1 eσ_1 => ?_)
  have eσ_1 : σ_1 = upd σ (0 + k) v := eσ_1
  exact g_vret h hQ dX12_puts_7 rfl (by assumption)

set_option maxRecDepth 100000 in
set_option maxHeartbeats 4000000 in
theorem r_two {l : Launch} {w : Wd} (hW : Wi w) {σ : Mem} (x a b : Nat)  : MC l w qX12_two 0 [.int (nI x), .int (nI a), .int (nI b)] σ (some (.int (nI (x + (8 * a + b))))) (fun σ' => σ' = σ) := by
  refine MC.of hW (by decide +kernel) (Nat.le_of_ble_eq_true rfl) (fun X h hQ hnm => ?_)
  have h : Fx X w cX12_two 3 RX12 0 := h
  have hQ : Qx X w (some .int) (some (.int (nI (x + (8 * a + b))))) (fun σ' => σ' = σ) := hQ
  show G X w 3 0 [(0, .int (nI x)), (1, .int (nI a)), (2, .int (nI b))] [] σ
  refine g_iload_n h dX12_two_0 0 rfl ?_
  refine g_bipush h dX12_two_1 (by decide) ?_
  refine g_iload_n h dX12_two_3 1 rfl ?_
  refine g_imulN h dX12_two_4  ?_
  refine g_iaddN h dX12_two_5  ?_
  refine g_iload_n h dX12_two_6 2 rfl ?_
  refine g_iaddN h dX12_two_7  ?_
  exact g_iret h hQ dX12_two_8 (congrArg (fun z => some (Value.int z)) (show (nI (x + (8 * a + b))) = (nI (x + 8 * a + b)) by rw [Nat.add_assoc])) rfl

set_option maxRecDepth 100000 in
set_option maxHeartbeats 4000000 in
theorem r_isOn {l : Launch} {w : Wd} (hW : Wi w) {σ : Mem} (k : Nat) (μ : Nat → Int32) (hv : vw 0 σ = μ) (hk : k < 32) : MC l w qX12_isOn 1 [.ref (w.1 0), .int (nI k)] σ (some (.int (b2i (tb (μ 1) k)))) (fun σ' => σ' = σ) := by
  refine MC.of hW (by decide +kernel) (Nat.le_of_ble_eq_true rfl) (fun X h hQ hnm => ?_)
  have h : Fx X w cX12_isOn 2 RX12 1 := h
  have hQ : Qx X w (some .boolean) (some (.int (b2i (tb (μ 1) k)))) (fun σ' => σ' = σ) := hQ
  show G X w 2 0 [(0, .ref (w.1 0)), (1, .int (nI k))] [] σ
  refine g_aload_n h dX12_isOn_0 0 rfl ?_
  refine g_iconst h dX12_isOn_1 (by decide) ?_
  refine g_cvpi (rest := []) h (r_of hW 1 μ (by assumption) (by omega)) lX12_of mX12_61 (Nat.lt_of_lt_of_le (by decide) (Nat.le_refl _)) (by decide) sc_0 rfl rfl rfl rfl dX12_isOn_2 ?_
  refine g_iload_n h dX12_isOn_5 1 rfl ?_
  refine g_cspi (rest := []) h (r_has hW (μ 1) k (by omega)) lX12_has mX12_65 (Nat.lt_of_lt_of_le (by decide) (Nat.le_refl _)) (by decide) rfl rfl rfl dX12_isOn_6 ?_
  exact g_zret h hQ dX12_isOn_9 (show narrow .boolean (.int (b2i (tb (μ 1) k))) = .int (b2i (tb (μ 1) k)) from narrow_b2i _) rfl rfl
