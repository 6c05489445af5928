set_option maxRecDepth 100000 in
set_option maxHeartbeats 4000000 in
theorem r_adds {l : Launch} {w : Wd} (hW : Wi w) {σ : Mem} (k : Nat) (v : Int32) (hk : k < 3168) : MC l w qX12_adds 0 [.ref (w.1 0), .int (nI k), .int v] σ none (fun σ' => (σ' = upd σ (0 + k) (σ (0 + k) + v))) := by
  refine MC.of hW (by decide +kernel) (Nat.le_of_ble_eq_true rfl) (fun X h hQ hnm => ?_)
  have h : Fx X w cX12_adds 3 RX12 0 := h
  have hQ : Qx X w none none (fun σ' => (σ' = upd σ (0 + k) (σ (0 + k) + v))) := hQ
  show G X w 3 0 [(0, .ref (w.1 0)), (1, .int (nI k)), (2, .int v)] [] σ
  refine g_aload_n h dX12_adds_0 0 rfl ?_
  refine g_getr h dX12_adds_1 gX12_7 sc_0 rfl ?_
  refine g_iload_n h dX12_adds_4 1 rfl ?_
  refine g_dup2 h dX12_adds_5 rfl rfl ?_
  refine g_iald h dX12_adds_6 sc_1 (by omega) ?_
  refine g_iload_n h dX12_adds_7 2 rfl ?_
  refine g_iadd h dX12_adds_8  ?_
  refine g_iast h dX12_adds_9 sc_1 (by omega) ?_
  refine g_nm (fun σ_1 eσ_1 => ?_)
  have eσ_1 : σ_1 = upd σ (0 + k) ((σ (0 + k)) + v) := eσ_1
  exact g_vret h hQ dX12_adds_10 rfl (by assumption)

set_option maxRecDepth 100000 in
set_option maxHeartbeats 4000000 in
theorem r_refuse {l : Launch} {w : Wd} (hW : Wi w) {σ : Mem} (y : Int32)  : MC l w qX12_refuse 0 [.ref (w.1 0), .int y] σ (some (.int (-1))) (fun σ' => (σ' = upd σ 4000 y)) := by
  refine MC.of hW (by decide +kernel) (Nat.le_of_ble_eq_true rfl) (fun X h hQ hnm => ?_)
  have h : Fx X w cX12_refuse 2 RX12 0 := h
  have hQ : Qx X w (some .int) (some (.int (-1))) (fun σ' => (σ' = upd σ 4000 y)) := hQ
  show G X w 2 0 [(0, .ref (w.1 0)), (1, .int y)] [] σ
  refine g_aload_n h dX12_refuse_0 0 rfl ?_
  refine g_iload_n h dX12_refuse_1 1 rfl ?_
  refine g_puti h dX12_refuse_2 pX12_54 sc_0 rfl ?_
  refine g_nm (fun σ_1 eσ_1 => ?_)
  have eσ_1 : σ_1 = upd σ 4000 y := eσ_1
  refine g_iconstv h dX12_refuse_5 (v := (-1)) (by decide) ?_
  exact g_iret h hQ dX12_refuse_6 rfl (by assumption)

set_option maxRecDepth 100000 in
set_option maxHeartbeats 4000000 in
theorem r_gives {l : Launch} {w : Wd} (hW : Wi w) {σ : Mem} (y : Int32)  : MC l w qX12_gives 0 [.ref (w.1 0), .int y] σ (some (.int y)) (fun σ' => (σ' = upd σ 4000 (nI 0))) := by
  refine MC.of hW (by decide +kernel) (Nat.le_of_ble_eq_true rfl) (fun X h hQ hnm => ?_)
  have h : Fx X w cX12_gives 2 RX12 0 := h
  have hQ : Qx X w (some .int) (some (.int y)) (fun σ' => (σ' = upd σ 4000 (nI 0))) := hQ
  show G X w 2 0 [(0, .ref (w.1 0)), (1, .int y)] [] σ
  refine g_aload_n h dX12_gives_0 0 rfl ?_
  refine g_iconst h dX12_gives_1 (by decide) ?_
  refine g_puti h dX12_gives_2 pX12_54 sc_0 rfl ?_
  refine g_nm (fun σ_1 eσ_1 => ?_)
  have eσ_1 : σ_1 = upd σ 4000 (nI 0) := eσ_1
  refine g_iload_n h dX12_gives_5 1 rfl ?_
  exact g_iret h hQ dX12_gives_6 rfl (by assumption)

set_option maxRecDepth 100000 in
set_option maxHeartbeats 4000000 in
theorem r_isSo {l : Launch} {w : Wd} (hW : Wi w) {σ : Mem} (y : Int32)  : MC l w qX12_isSo 0 [.ref (w.1 0), .int y] σ (some (.int (b2i (decide (y = 0))))) (fun σ' => (σ' = upd σ 4000 y)) := by
  refine MC.of hW (by decide +kernel) (Nat.le_of_ble_eq_true rfl) (fun X h hQ hnm => ?_)
  have h : Fx X w cX12_isSo 2 RX12 0 := h
  have hQ : Qx X w (some .boolean) (some (.int (b2i (decide (y = 0))))) (fun σ' => (σ' = upd σ 4000 y)) := hQ
  show G X w 2 0 [(0, .ref (w.1 0)), (1, .int y)] [] σ
  refine g_aload_n h dX12_isSo_0 0 rfl ?_
  refine g_iload_n h dX12_isSo_1 1 rfl ?_
  refine g_puti h dX12_isSo_2 pX12_54 sc_0 rfl ?_
  refine g_nm (fun σ_1 eσ_1 => ?_)
  have eσ_1 : σ_1 = upd σ 4000 y := eσ_1
  refine g_iload_n h dX12_isSo_5 1 rfl ?_
  refine g_if_ne h dX12_isSo_6 (fun c6 => ?_) (fun c6 => ?_)
  ·
    refine g_iconst h dX12_isSo_13 (by decide) ?_
    exact g_zret h hQ dX12_isSo_14 (show narrow .boolean (.int (b2i false)) = .int (b2i false) from narrow_b2i _) (congrArg (fun z => some (Value.int (b2i z))) (show (decide (y = 0)) = false by simp [c6])) (by assumption)
  ·
    refine g_iconst h dX12_isSo_9 (by decide) ?_
    refine g_goto h dX12_isSo_10 ?_
    exact g_zret h hQ dX12_isSo_14 (show narrow .boolean (.int (b2i true)) = .int (b2i true) from narrow_b2i _) (congrArg (fun z => some (Value.int (b2i z))) (show (decide (y = 0)) = true by simp [c6])) (by assumption)

set_option maxRecDepth 100000 in
set_option maxHeartbeats 4000000 in
theorem r_isNode {l : Launch} {w : Wd} (hW : Wi w) {σ : Mem} (k : Int32) (μ : Nat → Int32) (hv : vw 0 σ = μ) : MC l w qX12_isNode 1 [.ref (w.1 0), .int k] σ (some (.int (b2i (decide (0 ≤ k) && decide (k < μ 0))))) (fun σ' => σ' = σ) := by
  refine MC.of hW (by decide +kernel) (Nat.le_of_ble_eq_true rfl) (fun X h hQ hnm => ?_)
  have h : Fx X w cX12_isNode 2 RX12 1 := h
  have hQ : Qx X w (some .boolean) (some (.int (b2i (decide (0 ≤ k) && decide (k < μ 0))))) (fun σ' => σ' = σ) := hQ
  show G X w 2 0 [(0, .ref (w.1 0)), (1, .int k)] [] σ
  refine g_iload_n h dX12_isNode_0 1 rfl ?_
  refine g_if_lt h dX12_isNode_1 (fun c1 => ?_) (fun c1 => ?_)
  ·
    refine g_iconst h dX12_isNode_17 (by decide) ?_
    exact g_zret h hQ dX12_isNode_18 (show narrow .boolean (.int (b2i false)) = .int (b2i false) from narrow_b2i _) (congrArg (fun z => some (Value.int (b2i z))) (show (decide (0 ≤ k) && decide (k < μ 0)) = false by first | simp [Int32.not_le.mpr c1] | simp [Int32.not_lt.mp c1, Int32.not_lt.mpr c10] | simp [Int32.not_lt.mp c1, Int32.not_le.mp c10] | fail)) rfl
  ·
    refine g_iload_n h dX12_isNode_4 1 rfl ?_
    refine g_aload_n h dX12_isNode_5 0 rfl ?_
    refine g_iconst h dX12_isNode_6 (by decide) ?_
    refine g_cvpi (rest := [.int k]) h (r_of hW 0 μ (by assumption) (by omega)) lX12_of mX12_61 (Nat.lt_of_lt_of_le (by decide) (Nat.le_refl _)) (by decide) sc_0 rfl rfl rfl rfl dX12_isNode_7 ?_
    refine g_icmp_ge h dX12_isNode_10 (fun c10 => ?_) (fun c10 => ?_)
    ·
      refine g_iconst h dX12_isNode_17 (by decide) ?_
      exact g_zret h hQ dX12_isNode_18 (show narrow .boolean (.int (b2i false)) = .int (b2i false) from narrow_b2i _) (congrArg (fun z => some (Value.int (b2i z))) (show (decide (0 ≤ k) && decide (k < μ 0)) = false by first | simp [Int32.not_le.mpr c1] | simp [Int32.not_lt.mp c1, Int32.not_lt.mpr c10] | simp [Int32.not_lt.mp c1, Int32.not_le.mp c10] | fail)) rfl
    ·
      refine g_iconst h dX12_isNode_13 (by decide) ?_
      refine g_goto h dX12_isNode_14 ?_
      exact g_zret h hQ dX12_isNode_18 (show narrow .boolean (.int (b2i true)) = .int (b2i true) from narrow_b2i _) (congrArg (fun z => some (Value.int (b2i z))) (show (decide (0 ≤ k) && decide (k < μ 0)) = true by first | simp [Int32.not_le.mpr c1] | simp [Int32.not_lt.mp c1, Int32.not_lt.mpr c10] | simp [Int32.not_lt.mp c1, Int32.not_le.mp c10] | fail)) rfl

set_option maxRecDepth 100000 in
set_option maxHeartbeats 4000000 in
theorem r_with {l : Launch} {w : Wd} (hW : Wi w) {σ : Mem} (s : Int32) (k : Nat) (p : Bool)  : MC l w qX12_with 0 [.int s, .int (nI k), .int (b2i p)] σ (some (.int (wth s k p))) (fun σ' => σ' = σ) := by
  refine MC.of hW (by decide +kernel) (Nat.le_of_ble_eq_true rfl) (fun X h hQ hnm => ?_)
  have h : Fx X w cX12_with 3 RX12 0 := h
  have hQ : Qx X w (some .int) (some (.int (wth s k p))) (fun σ' => σ' = σ) := hQ
  show G X w 3 0 [(0, .int s), (1, .int (nI k)), (2, .int (b2i p))] [] σ
  refine g_iload_n h dX12_with_0 2 rfl ?_
  refine g_ifB_eq h dX12_with_1 (fun c1 => ?_) (fun c1 => ?_)
  ·
    refine g_iload_n h dX12_with_12 0 rfl ?_
    refine g_iconst h dX12_with_13 (by decide) ?_
    refine g_iload_n h dX12_with_14 1 rfl ?_
    refine g_ishl h dX12_with_15  ?_
    refine g_top (y := bt1 k) rfl ?_
    refine g_iconstv h dX12_with_16 (v := (-1)) (by decide) ?_
    refine g_ixor h dX12_with_17  ?_
    refine g_top (y := nots (bt1 k)) rfl ?_
    refine g_iand h dX12_with_18  ?_
    exact g_iret h hQ dX12_with_19 (congrArg (fun z => some (Value.int z)) (show (wth s k p) = (s &&& (nots (bt1 k))) by rw [c1]; rfl)) rfl
  ·
    refine g_iload_n h dX12_with_4 0 rfl ?_
    refine g_iconst h dX12_with_5 (by decide) ?_
    refine g_iload_n h dX12_with_6 1 rfl ?_
    refine g_ishl h dX12_with_7  ?_
    refine g_top (y := bt1 k) rfl ?_
    refine g_ior h dX12_with_8  ?_
    refine g_goto h dX12_with_9 ?_
    exact g_iret h hQ dX12_with_19 (congrArg (fun z => some (Value.int z)) (show (wth s k p) = (s ||| (bt1 k)) by rw [c1]; rfl)) rfl

set_option maxRecDepth 100000 in
set_option maxHeartbeats 4000000 in
theorem r_bitsN {l : Launch} {w : Wd} (hW : Wi w) {σ : Mem} (s : Nat) (hs : s < 256) : MC l w qX12_bits 0 [.int (nI s)] σ (some (.int (nI (pc (nI s))))) (fun σ' => σ' = σ) := by
  refine MC.of hW (by decide +kernel) (Nat.le_of_ble_eq_true rfl) (fun X h hQ hnm => ?_)
  have h : Fx X w cX12_bits 3 RX12 0 := h
  have hQ : Qx X w (some .int) (some (.int (nI (pc (nI s))))) (fun σ' => σ' = σ) := hQ
  show G X w 3 0 [(0, .int (nI s))] [] σ
  refine g_iconst h dX12_bits_0 (by decide) ?_
  refine g_istore_n (L' := [(0, .int (nI s)), (1, .int (nI 0))]) h dX12_bits_1 rfl (by decide) rfl ?_
  refine g_iload_n h dX12_bits_2 0 rfl ?_
  refine g_istore_n (L' := [(0, .int (nI s)), (1, .int (nI 0)), (2, .int (nI s))]) h dX12_bits_3 rfl (by decide) rfl ?_
  have lp4 : ∀ (k9 : Nat) (m : Nat) (k : Nat), (k < 256) → (m + pc (nI k) = pc (nI s)) → k < k9 → G X w 3 4 [(0, .int (nI s)), (1, .int (nI m)), (2, .int (nI k))] [] σ := by
    intro k9
    induction k9 with
    | zero => intro m k hk he hm9; exact absurd hm9 (Nat.not_lt_zero _)
    | succ k9 ih4 =>
      intro m k hk he hm4
      refine g_iload_n h dX12_bits_4 2 rfl ?_
      refine g_ifN_eq h dX12_bits_5 (by omega) (fun c5 => ?_) (fun c5 => ?_)
      ·
        refine g_iload_n h dX12_bits_20 1 rfl ?_
        exact g_iret h hQ dX12_bits_21 (congrArg (fun z => some (Value.int z)) (show (nI (pc (nI s))) = (nI m) by first | rfl | (have h0 := pc_0; subst c5; exact congrArg nI (by omega)) | fail)) rfl
      ·
        obtain ⟨ps1, ps2, ps3⟩ := pc_stepN k hk c5
        refine g_iincN (b := 1) (L' := [(0, .int (nI s)), (1, .int (nI (m + 1))), (2, .int (nI k))]) h dX12_bits_8 1 rfl rfl (by decide) (by decide) rfl ?_
        refine g_iload_n h dX12_bits_11 2 rfl ?_
        refine g_iload_n h dX12_bits_12 2 rfl ?_
        refine g_iconst h dX12_bits_13 (by decide) ?_
        refine g_isub h dX12_bits_14  ?_
        refine g_iand h dX12_bits_15  ?_
        refine g_top (y := nI (k &&& (k - 1))) ps1 ?_
        refine g_istore_n (L' := [(0, .int (nI s)), (1, .int (nI (m + 1))), (2, .int (nI (k &&& (k - 1))))]) h dX12_bits_16 rfl (by decide) rfl ?_
        refine g_goto h dX12_bits_17 ?_
        exact ih4 (m + 1) (k &&& (k - 1)) (by omega) (by omega) (by omega)
  exact lp4 (_) 0 s (by omega) (by omega) (Nat.lt_succ_self _)

theorem r_bits {l : Launch} {w : Wd} (hW : Wi w) {σ : Mem} (s : Int32) (hs : sb 8 s) : MC l w qX12_bits 0 [.int s] σ (some (.int (nI (pc s)))) (fun σ' => σ' = σ) := by
  obtain ⟨n, hn, rfl⟩ := s8_ex hs
  exact r_bitsN hW n hn

set_option maxRecDepth 100000 in
set_option maxHeartbeats 4000000 in
theorem r_willing {l : Launch} {w : Wd} (hW : Wi w) {σ : Mem} (i : Nat) (μ : Nat → Int32) (hv : vw 0 σ = μ) (hI : MI μ) (hi : i < 8) : MC l w qX12_willing 1 [.ref (w.1 0), .int (nI i)] σ (some (.int (wil μ i))) (fun σ' => σ' = σ) := by
  refine MC.of hW (by decide +kernel) (Nat.le_of_ble_eq_true rfl) (fun X h hQ hnm => ?_)
  have h : Fx X w cX12_willing 4 RX12 1 := h
  have hQ : Qx X w (some .int) (some (.int (wil μ i))) (fun σ' => σ' = σ) := hQ
  have hN8 := mi_8 hI
  show G X w 4 0 [(0, .ref (w.1 0)), (1, .int (nI i))] [] σ
  refine g_iconst h dX12_willing_0 (by decide) ?_
  refine g_istore_n (L' := [(0, .ref (w.1 0)), (1, .int (nI i)), (2, .int (nI 0))]) h dX12_willing_1 rfl (by decide) rfl ?_
  refine g_iconst h dX12_willing_2 (by decide) ?_
  refine g_istore_n (L' := [(0, .ref (w.1 0)), (1, .int (nI i)), (2, .int (nI 0)), (3, .int (nI 0))]) h dX12_willing_3 rfl (by decide) rfl ?_
  have lp4 : ∀ (k9 : Nat) (s : Int32) (j : Nat), (s = mkS (fun j => tb (μ (64 + i)) j && decide (0 < nA μ (16 + j))) j) → (j ≤ nN μ) → nN μ - j < k9 → G X w 4 4 [(0, .ref (w.1 0)), (1, .int (nI i)), (2, .int s), (3, .int (nI j))] [] σ := by
    intro k9
    induction k9 with
    | zero => intro s j hs hj hm9; exact absurd hm9 (Nat.not_lt_zero _)
    | succ k9 ih4 =>
      intro s j hs hj hm4
      refine g_iload_n h dX12_willing_4 3 rfl ?_
      refine g_aload_n h dX12_willing_5 0 rfl ?_
      refine g_iconst h dX12_willing_6 (by decide) ?_
      refine g_cvpi (rest := [.int (nI j)]) h (r_of hW 0 μ (by assumption) (by omega)) lX12_of mX12_61 (Nat.lt_of_lt_of_le (by decide) (Nat.le_refl _)) (by decide) sc_0 rfl rfl rfl rfl dX12_willing_7 ?_
      refine g_top (y := nI (nN μ)) (mi_0 (by assumption)) ?_
      refine g_icmpN_ge h dX12_willing_10 (by omega) (by omega) (fun c10 => ?_) (fun c10 => ?_)
      ·
        refine g_iload_n h dX12_willing_55 2 rfl ?_
        exact g_iret h hQ dX12_willing_56 (congrArg (fun z => some (Value.int z)) (show (wil μ i) = s by have e9 : j = nN μ := (by omega); subst e9; exact hs.symm)) rfl
      ·
        refine g_iload_n h dX12_willing_13 2 rfl ?_
        refine g_aload_n h dX12_willing_14 0 rfl ?_
        refine g_bipush h dX12_willing_15 (by decide) ?_
        refine g_iload_n h dX12_willing_17 1 rfl ?_
        refine g_iaddN h dX12_willing_18  ?_
        refine g_cvpi (rest := [.int s]) h (r_of hW (64 + i) μ (by assumption) (by omega)) lX12_of mX12_61 (Nat.lt_of_lt_of_le (by decide) (Nat.le_refl _)) (by decide) sc_0 rfl rfl rfl rfl dX12_willing_19 ?_
        refine g_iload_n h dX12_willing_22 3 rfl ?_
        refine g_cspi (rest := [.int s]) h (r_has hW (μ (64 + i)) j (by omega)) lX12_has mX12_65 (Nat.lt_of_lt_of_le (by decide) (Nat.le_refl _)) (by decide) rfl rfl rfl dX12_willing_23 ?_
        refine g_ifB_eq h dX12_willing_26 (fun c26 => ?_) (fun c26 => ?_)
        ·
          refine g_iconst h dX12_willing_46 (by decide) ?_
          refine g_ior h dX12_willing_47  ?_
          refine g_istore_n (L' := [(0, .ref (w.1 0)), (1, .int (nI i)), (2, .int (s ||| (nI 0))), (3, .int (nI j))]) h dX12_willing_48 rfl (by decide) rfl ?_
          refine g_iincN (b := 1) (L' := [(0, .ref (w.1 0)), (1, .int (nI i)), (2, .int (s ||| (nI 0))), (3, .int (nI (j + 1)))]) h dX12_willing_49 3 rfl rfl (by decide) (by decide) rfl ?_
          refine g_goto h dX12_willing_52 ?_
          exact ih4 (s ||| (nI 0)) (j + 1) (by first | rfl | (simp [hs, mkS, orS, fN, or_n0, ful, lsO, bst, c10, c26]; done) | (simp_all [mkS, orS, fN, or_n0, ful, lsO, bst]; done) | fail | fail) (by omega) (by omega)
        ·
          refine g_aload_n h dX12_willing_29 0 rfl ?_
          refine g_bipush h dX12_willing_30 (by decide) ?_
          refine g_iload_n h dX12_willing_32 3 rfl ?_
          refine g_iaddN h dX12_willing_33  ?_
          refine g_cvpi (rest := [.int s]) h (r_of hW (16 + j) μ (by assumption) (by omega)) lX12_of mX12_61 (Nat.lt_of_lt_of_le (by decide) (Nat.le_refl _)) (by decide) sc_0 rfl rfl rfl rfl dX12_willing_34 ?_
          refine g_top (y := nI (nA μ (16 + j))) (mi_16 (by assumption) (by omega)) ?_
          have b9_34 : nA μ (16 + j) < 8 := mb_16 (by assumption) (by omega)
          refine g_ifN_le h dX12_willing_37 (by omega) (fun c37 => ?_) (fun c37 => ?_)
          ·
            refine g_iconst h dX12_willing_46 (by decide) ?_
            refine g_ior h dX12_willing_47  ?_
            refine g_istore_n (L' := [(0, .ref (w.1 0)), (1, .int (nI i)), (2, .int (s ||| (nI 0))), (3, .int (nI j))]) h dX12_willing_48 rfl (by decide) rfl ?_
            refine g_iincN (b := 1) (L' := [(0, .ref (w.1 0)), (1, .int (nI i)), (2, .int (s ||| (nI 0))), (3, .int (nI (j + 1)))]) h dX12_willing_49 3 rfl rfl (by decide) (by decide) rfl ?_
            refine g_goto h dX12_willing_52 ?_
            exact ih4 (s ||| (nI 0)) (j + 1) (by first | rfl | (simp [hs, mkS, orS, fN, or_n0, ful, lsO, bst, c10, c26, c37]; done) | (simp_all [mkS, orS, fN, or_n0, ful, lsO, bst]; done) | fail | fail) (by omega) (by omega)
          ·
            refine g_iconst h dX12_willing_40 (by decide) ?_
            refine g_iload_n h dX12_willing_41 3 rfl ?_
            refine g_ishl h dX12_willing_42  ?_
            refine g_top (y := bt1 j) rfl ?_
            refine g_goto h dX12_willing_43 ?_
            refine g_ior h dX12_willing_47  ?_
            refine g_istore_n (L' := [(0, .ref (w.1 0)), (1, .int (nI i)), (2, .int (s ||| (bt1 j))), (3, .int (nI j))]) h dX12_willing_48 rfl (by decide) rfl ?_
            refine g_iincN (b := 1) (L' := [(0, .ref (w.1 0)), (1, .int (nI i)), (2, .int (s ||| (bt1 j))), (3, .int (nI (j + 1)))]) h dX12_willing_49 3 rfl rfl (by decide) (by decide) rfl ?_
            refine g_goto h dX12_willing_52 ?_
            exact ih4 (s ||| (bt1 j)) (j + 1) (by first | rfl | (simp [hs, mkS, orS, fN, or_n0, ful, lsO, bst, c10, c26, c37]; done) | (simp_all [mkS, orS, fN, or_n0, ful, lsO, bst]; done) | fail | fail) (by omega) (by omega)
  exact lp4 (_) (nI 0) 0 (by first | rfl | (simp [mkS, orS, fN, or_n0, ful, lsO, bst]; done) | fail | fail) (by omega) (Nat.lt_succ_self _)

set_option maxRecDepth 100000 in
set_option maxHeartbeats 4000000 in
theorem r_knownOf {l : Launch} {w : Wd} (hW : Wi w) {σ : Mem} (i : Nat) (z : Int32) (μ : Nat → Int32) (hv : vw 0 σ = μ) (hI : MI μ) (hi : i < 8) : MC l w qX12_knownOf 1 [.ref (w.1 0), .int (nI i), .int z] σ (some (.int (kno μ i z))) (fun σ' => σ' = σ) := by
  refine MC.of hW (by decide +kernel) (Nat.le_of_ble_eq_true rfl) (fun X h hQ hnm => ?_)
  have h : Fx X w cX12_knownOf 5 RX12 1 := h
  have hQ : Qx X w (some .int) (some (.int (kno μ i z))) (fun σ' => σ' = σ) := hQ
  have hN8 := mi_8 hI
  show G X w 5 0 [(0, .ref (w.1 0)), (1, .int (nI i)), (2, .int z)] [] σ
  refine g_iconst h dX12_knownOf_0 (by decide) ?_
  refine g_istore_n (L' := [(0, .ref (w.1 0)), (1, .int (nI i)), (2, .int z), (3, .int (nI 0))]) h dX12_knownOf_1 rfl (by decide) rfl ?_
  refine g_iconst h dX12_knownOf_2 (by decide) ?_
  refine g_istore (L' := [(0, .ref (w.1 0)), (1, .int (nI i)), (2, .int z), (3, .int (nI 0)), (4, .int (nI 0))]) h dX12_knownOf_3 rfl (by decide) rfl ?_
  have lp5 : ∀ (k9 : Nat) (s : Int32) (j : Nat), (s = orS (fun j => if tb z j = true then μ (144 + (8 * i + j)) else nI 0) j) → (j ≤ nN μ) → nN μ - j < k9 → G X w 5 5 [(0, .ref (w.1 0)), (1, .int (nI i)), (2, .int z), (3, .int s), (4, .int (nI j))] [] σ := by
    intro k9
    induction k9 with
    | zero => intro s j hs hj hm9; exact absurd hm9 (Nat.not_lt_zero _)
    | succ k9 ih5 =>
      intro s j hs hj hm5
      refine g_iload h dX12_knownOf_5 4 rfl ?_
      refine g_aload_n h dX12_knownOf_7 0 rfl ?_
      refine g_iconst h dX12_knownOf_8 (by decide) ?_
      refine g_cvpi (rest := [.int (nI j)]) h (r_of hW 0 μ (by assumption) (by omega)) lX12_of mX12_61 (Nat.lt_of_lt_of_le (by decide) (Nat.le_refl _)) (by decide) sc_0 rfl rfl rfl rfl dX12_knownOf_9 ?_
      refine g_top (y := nI (nN μ)) (mi_0 (by assumption)) ?_
      refine g_icmpN_ge h dX12_knownOf_12 (by omega) (by omega) (fun c12 => ?_) (fun c12 => ?_)
      ·
        refine g_iload_n h dX12_knownOf_50 3 rfl ?_
        exact g_iret h hQ dX12_knownOf_51 (congrArg (fun z => some (Value.int z)) (show (kno μ i z) = s by have e9 : j = nN μ := (by omega); subst e9; exact hs.symm)) rfl
      ·
        refine g_iload_n h dX12_knownOf_15 3 rfl ?_
        refine g_iload_n h dX12_knownOf_16 2 rfl ?_
        refine g_iload h dX12_knownOf_17 4 rfl ?_
        refine g_cspi (rest := [.int s]) h (r_has hW z j (by omega)) lX12_has mX12_65 (Nat.lt_of_lt_of_le (by decide) (Nat.le_refl _)) (by decide) rfl rfl rfl dX12_knownOf_19 ?_
        refine g_ifB_eq h dX12_knownOf_22 (fun c22 => ?_) (fun c22 => ?_)
        ·
          refine g_iconst h dX12_knownOf_41 (by decide) ?_
          refine g_ior h dX12_knownOf_42  ?_
          refine g_istore_n (L' := [(0, .ref (w.1 0)), (1, .int (nI i)), (2, .int z), (3, .int (s ||| (nI 0))), (4, .int (nI j))]) h dX12_knownOf_43 rfl (by decide) rfl ?_
          refine g_iincN (b := 1) (L' := [(0, .ref (w.1 0)), (1, .int (nI i)), (2, .int z), (3, .int (s ||| (nI 0))), (4, .int (nI (j + 1)))]) h dX12_knownOf_44 4 rfl rfl (by decide) (by decide) rfl ?_
          refine g_goto h dX12_knownOf_47 ?_
          exact ih5 (s ||| (nI 0)) (j + 1) (by first | rfl | (simp [hs, mkS, orS, fN, or_n0, ful, lsO, bst, c12, c22]; done) | (simp_all [mkS, orS, fN, or_n0, ful, lsO, bst]; done) | fail | fail) (by omega) (by omega)
        ·
          refine g_aload_n h dX12_knownOf_25 0 rfl ?_
          refine g_sipush h dX12_knownOf_26 (by decide) ?_
          refine g_iload_n h dX12_knownOf_29 1 rfl ?_
          refine g_iload h dX12_knownOf_30 4 rfl ?_
          refine g_cspi (rest := [.ref (w.1 0), .int s]) h (r_two hW 144 i j ) lX12_two mX12_69 (Nat.lt_of_lt_of_le (by decide) (Nat.le_refl _)) (by decide) rfl rfl rfl dX12_knownOf_32 ?_
          refine g_cvpi (rest := [.int s]) h (r_of hW (144 + (8 * i + j)) μ (by assumption) (by omega)) lX12_of mX12_61 (Nat.lt_of_lt_of_le (by decide) (Nat.le_refl _)) (by decide) sc_0 rfl rfl rfl rfl dX12_knownOf_35 ?_
          refine g_goto h dX12_knownOf_38 ?_
          refine g_ior h dX12_knownOf_42  ?_
          refine g_istore_n (L' := [(0, .ref (w.1 0)), (1, .int (nI i)), (2, .int z), (3, .int (s ||| (μ (144 + (8 * i + j))))), (4, .int (nI j))]) h dX12_knownOf_43 rfl (by decide) rfl ?_
          refine g_iincN (b := 1) (L' := [(0, .ref (w.1 0)), (1, .int (nI i)), (2, .int z), (3, .int (s ||| (μ (144 + (8 * i + j))))), (4, .int (nI (j + 1)))]) h dX12_knownOf_44 4 rfl rfl (by decide) (by decide) rfl ?_
          refine g_goto h dX12_knownOf_47 ?_
          exact ih5 (s ||| (μ (144 + (8 * i + j)))) (j + 1) (by first | rfl | (simp [hs, mkS, orS, fN, or_n0, ful, lsO, bst, c12, c22]; done) | (simp_all [mkS, orS, fN, or_n0, ful, lsO, bst]; done) | fail | fail) (by omega) (by omega)
  exact lp5 (_) (nI 0) 0 (by first | rfl | (simp [mkS, orS, fN, or_n0, ful, lsO, bst]; done) | fail | fail) (by omega) (Nat.lt_succ_self _)

set_option maxRecDepth 100000 in
set_option maxHeartbeats 4000000 in
theorem r_behind {l : Launch} {w : Wd} (hW : Wi w) {σ : Mem} (i : Nat) (μ : Nat → Int32) (hv : vw 0 σ = μ) (hI : MI μ) (hi : i < 8) : MC l w qX12_behind 2 [.ref (w.1 0), .int (nI i)] σ (some (.int (bhd μ i))) (fun σ' => σ' = σ) := by
  refine MC.of hW (by decide +kernel) (Nat.le_of_ble_eq_true rfl) (fun X h hQ hnm => ?_)
  have h : Fx X w cX12_behind 2 RX12 2 := h
  have hQ : Qx X w (some .int) (some (.int (bhd μ i))) (fun σ' => σ' = σ) := hQ
  have hN8 := mi_8 hI
  show G X w 2 0 [(0, .ref (w.1 0)), (1, .int (nI i))] [] σ
  refine g_aload_n h dX12_behind_0 0 rfl ?_
  refine g_iload_n h dX12_behind_1 1 rfl ?_
  refine g_aload_n h dX12_behind_2 0 rfl ?_
  refine g_iload_n h dX12_behind_3 1 rfl ?_
  refine g_cvpi (rest := [.int (nI i), .ref (w.1 0)]) h (r_willing hW i μ (by first | exact hv | assumption | fail) (by assumption) (by omega)) lX12_willing mX12_73 (Nat.lt_of_lt_of_le (by decide) (Nat.le_refl _)) (by decide) sc_0 rfl rfl rfl rfl dX12_behind_4 ?_
  refine g_cvpi (rest := []) h (r_knownOf hW i (wil μ i) μ (by first | exact hv | assumption | fail) (by assumption) (by omega)) lX12_knownOf mX12_76 (Nat.lt_of_lt_of_le (by decide) (Nat.le_refl _)) (by decide) sc_0 rfl rfl rfl rfl dX12_behind_7 ?_
  refine g_aload_n h dX12_behind_10 0 rfl ?_
  refine g_bipush h dX12_behind_11 (by decide) ?_
  refine g_iload_n h dX12_behind_13 1 rfl ?_
  refine g_iaddN h dX12_behind_14  ?_
  refine g_cvpi (rest := [.int (kno μ i (wil μ i))]) h (r_of hW (64 + i) μ (by assumption) (by omega)) lX12_of mX12_61 (Nat.lt_of_lt_of_le (by decide) (Nat.le_refl _)) (by decide) sc_0 rfl rfl rfl rfl dX12_behind_15 ?_
  refine g_iconstv h dX12_behind_18 (v := (-1)) (by decide) ?_
  refine g_ixor h dX12_behind_19  ?_
  refine g_top (y := nots (μ (64 + i))) rfl ?_
  refine g_iand h dX12_behind_20  ?_
  refine g_iconst h dX12_behind_21 (by decide) ?_
  refine g_iload_n h dX12_behind_22 1 rfl ?_
  refine g_ishl h dX12_behind_23  ?_
  refine g_top (y := bt1 i) rfl ?_
  refine g_iconstv h dX12_behind_24 (v := (-1)) (by decide) ?_
  refine g_ixor h dX12_behind_25  ?_
  refine g_top (y := nots (bt1 i)) rfl ?_
  refine g_iand h dX12_behind_26  ?_
  exact g_iret h hQ dX12_behind_27 (congrArg (fun z => some (Value.int z)) (show (bhd μ i) = (((kno μ i (wil μ i)) &&& (nots (μ (64 + i)))) &&& (nots (bt1 i))) by rfl)) rfl

set_option maxRecDepth 100000 in
set_option maxHeartbeats 4000000 in
theorem r_aloneOf {l : Launch} {w : Wd} (hW : Wi w) {σ : Mem} (i : Nat) (z : Int32) (μ : Nat → Int32) (hv : vw 0 σ = μ) (hI : MI μ) (hi : i < 8) : MC l w qX12_aloneOf 3 [.ref (w.1 0), .int (nI i), .int z] σ (some (.int (alo μ i z (bhd μ i)))) (fun σ' => σ' = σ) := by
  refine MC.of hW (by decide +kernel) (Nat.le_of_ble_eq_true rfl) (fun X h hQ hnm => ?_)
  have h : Fx X w cX12_aloneOf 5 RX12 3 := h
  have hQ : Qx X w (some .int) (some (.int (alo μ i z (bhd μ i)))) (fun σ' => σ' = σ) := hQ
  have hN8 := mi_8 hI
  show G X w 5 0 [(0, .ref (w.1 0)), (1, .int (nI i)), (2, .int z)] [] σ
  refine g_iconst h dX12_aloneOf_0 (by decide) ?_
  refine g_istore_n (L' := [(0, .ref (w.1 0)), (1, .int (nI i)), (2, .int z), (3, .int (nI 0))]) h dX12_aloneOf_1 rfl (by decide) rfl ?_
  refine g_iconst h dX12_aloneOf_2 (by decide) ?_
  refine g_istore (L' := [(0, .ref (w.1 0)), (1, .int (nI i)), (2, .int z), (3, .int (nI 0)), (4, .int (nI 0))]) h dX12_aloneOf_3 rfl (by decide) rfl ?_
  have lp5 : ∀ (k9 : Nat) (s : Int32) (j : Nat), (s = mkS (fun j => tb z j && !decide (μ (144 + (8 * i + j)) &&& bhd μ i &&& nots (kno μ i (z &&& nots (bt1 j))) = 0)) j) → (j ≤ nN μ) → nN μ - j < k9 → G X w 5 5 [(0, .ref (w.1 0)), (1, .int (nI i)), (2, .int z), (3, .int s), (4, .int (nI j))] [] σ := by
    intro k9
    induction k9 with
    | zero => intro s j hs hj hm9; exact absurd hm9 (Nat.not_lt_zero _)
    | succ k9 ih5 =>
      intro s j hs hj hm5
      refine g_iload h dX12_aloneOf_5 4 rfl ?_
      refine g_aload_n h dX12_aloneOf_7 0 rfl ?_
      refine g_iconst h dX12_aloneOf_8 (by decide) ?_
      refine g_cvpi (rest := [.int (nI j)]) h (r_of hW 0 μ (by assumption) (by omega)) lX12_of mX12_61 (Nat.lt_of_lt_of_le (by decide) (Nat.le_refl _)) (by decide) sc_0 rfl rfl rfl rfl dX12_aloneOf_9 ?_
      refine g_top (y := nI (nN μ)) (mi_0 (by assumption)) ?_
      refine g_icmpN_ge h dX12_aloneOf_12 (by omega) (by omega) (fun c12 => ?_) (fun c12 => ?_)
      ·
        refine g_iload_n h dX12_aloneOf_79 3 rfl ?_
        exact g_iret h hQ dX12_aloneOf_80 (congrArg (fun z => some (Value.int z)) (show (alo μ i z (bhd μ i)) = s by have e9 : j = nN μ := (by omega); subst e9; exact hs.symm)) rfl
      ·
        refine g_iload_n h dX12_aloneOf_15 3 rfl ?_
        refine g_iload_n h dX12_aloneOf_16 2 rfl ?_
        refine g_iload h dX12_aloneOf_17 4 rfl ?_
        refine g_cspi (rest := [.int s]) h (r_has hW z j (by omega)) lX12_has mX12_65 (Nat.lt_of_lt_of_le (by decide) (Nat.le_refl _)) (by decide) rfl rfl rfl dX12_aloneOf_19 ?_
        refine g_ifB_eq h dX12_aloneOf_22 (fun c22 => ?_) (fun c22 => ?_)
        ·
          refine g_iconst h dX12_aloneOf_70 (by decide) ?_
          refine g_ior h dX12_aloneOf_71  ?_
          refine g_istore_n (L' := [(0, .ref (w.1 0)), (1, .int (nI i)), (2, .int z), (3, .int (s ||| (nI 0))), (4, .int (nI j))]) h dX12_aloneOf_72 rfl (by decide) rfl ?_
          refine g_iincN (b := 1) (L' := [(0, .ref (w.1 0)), (1, .int (nI i)), (2, .int z), (3, .int (s ||| (nI 0))), (4, .int (nI (j + 1)))]) h dX12_aloneOf_73 4 rfl rfl (by decide) (by decide) rfl ?_
          refine g_goto h dX12_aloneOf_76 ?_
          exact ih5 (s ||| (nI 0)) (j + 1) (by first | rfl | (simp [hs, mkS, orS, fN, or_n0, ful, lsO, bst, c12, c22]; done) | (simp_all [mkS, orS, fN, or_n0, ful, lsO, bst]; done) | fail | fail) (by omega) (by omega)
        ·
          refine g_aload_n h dX12_aloneOf_25 0 rfl ?_
          refine g_sipush h dX12_aloneOf_26 (by decide) ?_
          refine g_iload_n h dX12_aloneOf_29 1 rfl ?_
          refine g_iload h dX12_aloneOf_30 4 rfl ?_
          refine g_cspi (rest := [.ref (w.1 0), .int s]) h (r_two hW 144 i j ) lX12_two mX12_69 (Nat.lt_of_lt_of_le (by decide) (Nat.le_refl _)) (by decide) rfl rfl rfl dX12_aloneOf_32 ?_
          refine g_cvpi (rest := [.int s]) h (r_of hW (144 + (8 * i + j)) μ (by assumption) (by omega)) lX12_of mX12_61 (Nat.lt_of_lt_of_le (by decide) (Nat.le_refl _)) (by decide) sc_0 rfl rfl rfl rfl dX12_aloneOf_35 ?_
          refine g_aload_n h dX12_aloneOf_38 0 rfl ?_
          refine g_iload_n h dX12_aloneOf_39 1 rfl ?_
          refine g_cvpi (rest := [.int (μ (144 + (8 * i + j))), .int s]) h (r_behind hW i μ (by first | exact hv | assumption | fail) (by assumption) (by omega)) lX12_behind mX12_80 (Nat.lt_of_lt_of_le (by decide) (Nat.le_refl _)) (by decide) sc_0 rfl rfl rfl rfl dX12_aloneOf_40 ?_
          refine g_iand h dX12_aloneOf_43  ?_
          refine g_aload_n h dX12_aloneOf_44 0 rfl ?_
          refine g_iload_n h dX12_aloneOf_45 1 rfl ?_
          refine g_iload_n h dX12_aloneOf_46 2 rfl ?_
          refine g_iconst h dX12_aloneOf_47 (by decide) ?_
          refine g_iload h dX12_aloneOf_48 4 rfl ?_
          refine g_ishl h dX12_aloneOf_50  ?_
          refine g_top (y := bt1 j) rfl ?_
          refine g_iconstv h dX12_aloneOf_51 (v := (-1)) (by decide) ?_
          refine g_ixor h dX12_aloneOf_52  ?_
          refine g_top (y := nots (bt1 j)) rfl ?_
          refine g_iand h dX12_aloneOf_53  ?_
          refine g_cvpi (rest := [.int ((μ (144 + (8 * i + j))) &&& (bhd μ i)), .int s]) h (r_knownOf hW i (z &&& (nots (bt1 j))) μ (by first | exact hv | assumption | fail) (by assumption) (by omega)) lX12_knownOf mX12_76 (Nat.lt_of_lt_of_le (by decide) (Nat.le_refl _)) (by decide) sc_0 rfl rfl rfl rfl dX12_aloneOf_54 ?_
          refine g_iconstv h dX12_aloneOf_57 (v := (-1)) (by decide) ?_
          refine g_ixor h dX12_aloneOf_58  ?_
          refine g_top (y := nots (kno μ i (z &&& (nots (bt1 j))))) rfl ?_
          refine g_iand h dX12_aloneOf_59  ?_
          refine g_if_eq h dX12_aloneOf_60 (fun c60 => ?_) (fun c60 => ?_)
          ·
            refine g_iconst h dX12_aloneOf_70 (by decide) ?_
            refine g_ior h dX12_aloneOf_71  ?_
            refine g_istore_n (L' := [(0, .ref (w.1 0)), (1, .int (nI i)), (2, .int z), (3, .int (s ||| (nI 0))), (4, .int (nI j))]) h dX12_aloneOf_72 rfl (by decide) rfl ?_
            refine g_iincN (b := 1) (L' := [(0, .ref (w.1 0)), (1, .int (nI i)), (2, .int z), (3, .int (s ||| (nI 0))), (4, .int (nI (j + 1)))]) h dX12_aloneOf_73 4 rfl rfl (by decide) (by decide) rfl ?_
            refine g_goto h dX12_aloneOf_76 ?_
            exact ih5 (s ||| (nI 0)) (j + 1) (by first | rfl | (simp [hs, mkS, orS, fN, or_n0, ful, lsO, bst, c12, c22, c60]; done) | (simp_all [mkS, orS, fN, or_n0, ful, lsO, bst]; done) | fail | fail) (by omega) (by omega)
          ·
            refine g_iconst h dX12_aloneOf_63 (by decide) ?_
            refine g_iload h dX12_aloneOf_64 4 rfl ?_
            refine g_ishl h dX12_aloneOf_66  ?_
            refine g_top (y := bt1 j) rfl ?_
            refine g_goto h dX12_aloneOf_67 ?_
            refine g_ior h dX12_aloneOf_71  ?_
            refine g_istore_n (L' := [(0, .ref (w.1 0)), (1, .int (nI i)), (2, .int z), (3, .int (s ||| (bt1 j))), (4, .int (nI j))]) h dX12_aloneOf_72 rfl (by decide) rfl ?_
            refine g_iincN (b := 1) (L' := [(0, .ref (w.1 0)), (1, .int (nI i)), (2, .int z), (3, .int (s ||| (bt1 j))), (4, .int (nI (j + 1)))]) h dX12_aloneOf_73 4 rfl rfl (by decide) (by decide) rfl ?_
            refine g_goto h dX12_aloneOf_76 ?_
            exact ih5 (s ||| (bt1 j)) (j + 1) (by first | rfl | (simp [hs, mkS, orS, fN, or_n0, ful, lsO, bst, c12, c22, c60]; done) | (simp_all [mkS, orS, fN, or_n0, ful, lsO, bst]; done) | fail | fail) (by omega) (by omega)
  exact lp5 (_) (nI 0) 0 (by first | rfl | (simp [mkS, orS, fN, or_n0, ful, lsO, bst]; done) | fail | fail) (by omega) (Nat.lt_succ_self _)

set_option maxRecDepth 100000 in
set_option maxHeartbeats 4000000 in
theorem r_isBetter {l : Launch} {w : Wd} (hW : Wi w) {σ : Mem} (i a b : Nat) (left : Int32) (μ : Nat → Int32) (hv : vw 0 σ = μ) (hI : MI μ) (hi : i < 8) (ha : a < 8) (hb : b < 8) : MC l w qX12_isBetter 1 [.ref (w.1 0), .int (nI i), .int (nI a), .int (nI b), .int left] σ (some (.int (b2i (decide (rnk μ i left b < rnk μ i left a))))) (fun σ' => σ' = σ) := by
  refine MC.of hW (by decide +kernel) (Nat.le_of_ble_eq_true rfl) (fun X h hQ hnm => ?_)
  have h : Fx X w cX12_isBetter 7 RX12 1 := h
  have hQ : Qx X w (some .boolean) (some (.int (b2i (decide (rnk μ i left b < rnk μ i left a))))) (fun σ' => σ' = σ) := hQ
  have hN8 := mi_8 hI
  have ka := ms_kno hI (k := 8 * i + a) (by omega)
  have kb := ms_kno hI (k := 8 * i + b) (by omega)
  have wa := mb_16 hI ha
  have wb := mb_16 hI hb
  have p1 := pc_le (μ (144 + (8 * i + a)) &&& left)
  have p2 := pc_le (μ (144 + (8 * i + b)) &&& left)
  have p3 := pc_le (μ (144 + (8 * i + a)))
  have p4 := pc_le (μ (144 + (8 * i + b)))
  show G X w 7 0 [(0, .ref (w.1 0)), (1, .int (nI i)), (2, .int (nI a)), (3, .int (nI b)), (4, .int left)] [] σ
  refine g_aload_n h dX12_isBetter_0 0 rfl ?_
  refine g_bipush h dX12_isBetter_1 (by decide) ?_
  refine g_iload_n h dX12_isBetter_3 2 rfl ?_
  refine g_iaddN h dX12_isBetter_4  ?_
  refine g_cvpi (rest := []) h (r_of hW (16 + a) μ (by assumption) (by omega)) lX12_of mX12_61 (Nat.lt_of_lt_of_le (by decide) (Nat.le_refl _)) (by decide) sc_0 rfl rfl rfl rfl dX12_isBetter_5 ?_
  refine g_top (y := nI (nA μ (16 + a))) (mi_16 (by assumption) (by omega)) ?_
  have b9_5 : nA μ (16 + a) < 8 := mb_16 (by assumption) (by omega)
  refine g_aload_n h dX12_isBetter_8 0 rfl ?_
  refine g_bipush h dX12_isBetter_9 (by decide) ?_
  refine g_iload_n h dX12_isBetter_11 3 rfl ?_
  refine g_iaddN h dX12_isBetter_12  ?_
  refine g_cvpi (rest := [.int (nI (nA μ (16 + a)))]) h (r_of hW (16 + b) μ (by assumption) (by omega)) lX12_of mX12_61 (Nat.lt_of_lt_of_le (by decide) (Nat.le_refl _)) (by decide) sc_0 rfl rfl rfl rfl dX12_isBetter_13 ?_
  refine g_top (y := nI (nA μ (16 + b))) (mi_16 (by assumption) (by omega)) ?_
  have b9_13 : nA μ (16 + b) < 8 := mb_16 (by assumption) (by omega)
  refine g_icmpN_eq h dX12_isBetter_16 (by omega) (by omega) (fun c16 => ?_) (fun c16 => ?_)
  ·
    refine g_aload_n h dX12_isBetter_44 0 rfl ?_
    refine g_sipush h dX12_isBetter_45 (by decide) ?_
    refine g_iload_n h dX12_isBetter_48 1 rfl ?_
    refine g_iload_n h dX12_isBetter_49 2 rfl ?_
    refine g_cspi (rest := [.ref (w.1 0)]) h (r_two hW 144 i a ) lX12_two mX12_69 (Nat.lt_of_lt_of_le (by decide) (Nat.le_refl _)) (by decide) rfl rfl rfl dX12_isBetter_50 ?_
    refine g_cvpi (rest := []) h (r_of hW (144 + (8 * i + a)) μ (by assumption) (by omega)) lX12_of mX12_61 (Nat.lt_of_lt_of_le (by decide) (Nat.le_refl _)) (by decide) sc_0 rfl rfl rfl rfl dX12_isBetter_53 ?_
    refine g_istore (L' := [(0, .ref (w.1 0)), (1, .int (nI i)), (2, .int (nI a)), (3, .int (nI b)), (4, .int left), (5, .int (μ (144 + (8 * i + a))))]) h dX12_isBetter_56 rfl (by decide) rfl ?_
    refine g_aload_n h dX12_isBetter_58 0 rfl ?_
    refine g_sipush h dX12_isBetter_59 (by decide) ?_
    refine g_iload_n h dX12_isBetter_62 1 rfl ?_
    refine g_iload_n h dX12_isBetter_63 3 rfl ?_
    refine g_cspi (rest := [.ref (w.1 0)]) h (r_two hW 144 i b ) lX12_two mX12_69 (Nat.lt_of_lt_of_le (by decide) (Nat.le_refl _)) (by decide) rfl rfl rfl dX12_isBetter_64 ?_
    refine g_cvpi (rest := []) h (r_of hW (144 + (8 * i + b)) μ (by assumption) (by omega)) lX12_of mX12_61 (Nat.lt_of_lt_of_le (by decide) (Nat.le_refl _)) (by decide) sc_0 rfl rfl rfl rfl dX12_isBetter_67 ?_
    refine g_istore (L' := [(0, .ref (w.1 0)), (1, .int (nI i)), (2, .int (nI a)), (3, .int (nI b)), (4, .int left), (5, .int (μ (144 + (8 * i + a)))), (6, .int (μ (144 + (8 * i + b))))]) h dX12_isBetter_70 rfl (by decide) rfl ?_
    refine g_iload h dX12_isBetter_72 5 rfl ?_
    refine g_iload h dX12_isBetter_74 4 rfl ?_
    refine g_iand h dX12_isBetter_76  ?_
    refine g_cspi (rest := []) h (r_bits hW ((μ (144 + (8 * i + a))) &&& left) (by first | assumption | exact sb_andl (by assumption) | fail)) lX12_bits mX12_83 (Nat.lt_of_lt_of_le (by decide) (Nat.le_refl _)) (by decide) rfl rfl rfl dX12_isBetter_77 ?_
    have p9_77 := pc_le ((μ (144 + (8 * i + a))) &&& left)
    refine g_iload h dX12_isBetter_80 6 rfl ?_
    refine g_iload h dX12_isBetter_82 4 rfl ?_
    refine g_iand h dX12_isBetter_84  ?_
    refine g_cspi (rest := [.int (nI (pc ((μ (144 + (8 * i + a))) &&& left)))]) h (r_bits hW ((μ (144 + (8 * i + b))) &&& left) (by first | assumption | exact sb_andl (by assumption) | fail)) lX12_bits mX12_83 (Nat.lt_of_lt_of_le (by decide) (Nat.le_refl _)) (by decide) rfl rfl rfl dX12_isBetter_85 ?_
    have p9_85 := pc_le ((μ (144 + (8 * i + b))) &&& left)
    refine g_icmpN_eq h dX12_isBetter_88 (by omega) (by omega) (fun c88 => ?_) (fun c88 => ?_)
    ·
      refine g_iload h dX12_isBetter_116 5 rfl ?_
      refine g_cspi (rest := []) h (r_bits hW (μ (144 + (8 * i + a))) (by first | assumption | exact sb_andl (by assumption) | fail)) lX12_bits mX12_83 (Nat.lt_of_lt_of_le (by decide) (Nat.le_refl _)) (by decide) rfl rfl rfl dX12_isBetter_118 ?_
      have p9_118 := pc_le (μ (144 + (8 * i + a)))
      refine g_iload h dX12_isBetter_121 6 rfl ?_
      refine g_cspi (rest := [.int (nI (pc (μ (144 + (8 * i + a)))))]) h (r_bits hW (μ (144 + (8 * i + b))) (by first | assumption | exact sb_andl (by assumption) | fail)) lX12_bits mX12_83 (Nat.lt_of_lt_of_le (by decide) (Nat.le_refl _)) (by decide) rfl rfl rfl dX12_isBetter_123 ?_
      have p9_123 := pc_le (μ (144 + (8 * i + b)))
      refine g_icmpN_le h dX12_isBetter_126 (by omega) (by omega) (fun c126 => ?_) (fun c126 => ?_)
      ·
        refine g_iconst h dX12_isBetter_133 (by decide) ?_
        exact g_zret h hQ dX12_isBetter_134 (show narrow .boolean (.int (b2i false)) = .int (b2i false) from narrow_b2i _) (congrArg (fun z => some (Value.int (b2i z))) (show (decide (rnk μ i left b < rnk μ i left a)) = false by unfold rnk; simp; omega)) rfl
      ·
        refine g_iconst h dX12_isBetter_129 (by decide) ?_
        refine g_goto h dX12_isBetter_130 ?_
        exact g_zret h hQ dX12_isBetter_134 (show narrow .boolean (.int (b2i true)) = .int (b2i true) from narrow_b2i _) (congrArg (fun z => some (Value.int (b2i z))) (show (decide (rnk μ i left b < rnk μ i left a)) = true by unfold rnk; simp; omega)) rfl
    ·
      refine g_iload h dX12_isBetter_91 5 rfl ?_
      refine g_iload h dX12_isBetter_93 4 rfl ?_
      refine g_iand h dX12_isBetter_95  ?_
      refine g_cspi (rest := []) h (r_bits hW ((μ (144 + (8 * i + a))) &&& left) (by first | assumption | exact sb_andl (by assumption) | fail)) lX12_bits mX12_83 (Nat.lt_of_lt_of_le (by decide) (Nat.le_refl _)) (by decide) rfl rfl rfl dX12_isBetter_96 ?_
      have p9_96 := pc_le ((μ (144 + (8 * i + a))) &&& left)
      refine g_iload h dX12_isBetter_99 6 rfl ?_
      refine g_iload h dX12_isBetter_101 4 rfl ?_
      refine g_iand h dX12_isBetter_103  ?_
      refine g_cspi (rest := [.int (nI (pc ((μ (144 + (8 * i + a))) &&& left)))]) h (r_bits hW ((μ (144 + (8 * i + b))) &&& left) (by first | assumption | exact sb_andl (by assumption) | fail)) lX12_bits mX12_83 (Nat.lt_of_lt_of_le (by decide) (Nat.le_refl _)) (by decide) rfl rfl rfl dX12_isBetter_104 ?_
      have p9_104 := pc_le ((μ (144 + (8 * i + b))) &&& left)
      refine g_icmpN_le h dX12_isBetter_107 (by omega) (by omega) (fun c107 => ?_) (fun c107 => ?_)
      ·
        refine g_iconst h dX12_isBetter_114 (by decide) ?_
        exact g_zret h hQ dX12_isBetter_115 (show narrow .boolean (.int (b2i false)) = .int (b2i false) from narrow_b2i _) (congrArg (fun z => some (Value.int (b2i z))) (show (decide (rnk μ i left b < rnk μ i left a)) = false by unfold rnk; simp; omega)) rfl
      ·
        refine g_iconst h dX12_isBetter_110 (by decide) ?_
        refine g_goto h dX12_isBetter_111 ?_
        exact g_zret h hQ dX12_isBetter_115 (show narrow .boolean (.int (b2i true)) = .int (b2i true) from narrow_b2i _) (congrArg (fun z => some (Value.int (b2i z))) (show (decide (rnk μ i left b < rnk μ i left a)) = true by unfold rnk; simp; omega)) rfl
  ·
    refine g_aload_n h dX12_isBetter_19 0 rfl ?_
    refine g_bipush h dX12_isBetter_20 (by decide) ?_
    refine g_iload_n h dX12_isBetter_22 2 rfl ?_
    refine g_iaddN h dX12_isBetter_23  ?_
    refine g_cvpi (rest := []) h (r_of hW (16 + a) μ (by assumption) (by omega)) lX12_of mX12_61 (Nat.lt_of_lt_of_le (by decide) (Nat.le_refl _)) (by decide) sc_0 rfl rfl rfl rfl dX12_isBetter_24 ?_
    refine g_top (y := nI (nA μ (16 + a))) (mi_16 (by assumption) (by omega)) ?_
    have b9_24 : nA μ (16 + a) < 8 := mb_16 (by assumption) (by omega)
    refine g_aload_n h dX12_isBetter_27 0 rfl ?_
    refine g_bipush h dX12_isBetter_28 (by decide) ?_
    refine g_iload_n h dX12_isBetter_30 3 rfl ?_
    refine g_iaddN h dX12_isBetter_31  ?_
    refine g_cvpi (rest := [.int (nI (nA μ (16 + a)))]) h (r_of hW (16 + b) μ (by assumption) (by omega)) lX12_of mX12_61 (Nat.lt_of_lt_of_le (by decide) (Nat.le_refl _)) (by decide) sc_0 rfl rfl rfl rfl dX12_isBetter_32 ?_
    refine g_top (y := nI (nA μ (16 + b))) (mi_16 (by assumption) (by omega)) ?_
    have b9_32 : nA μ (16 + b) < 8 := mb_16 (by assumption) (by omega)
    refine g_icmpN_le h dX12_isBetter_35 (by omega) (by omega) (fun c35 => ?_) (fun c35 => ?_)
    ·
      refine g_iconst h dX12_isBetter_42 (by decide) ?_
      exact g_zret h hQ dX12_isBetter_43 (show narrow .boolean (.int (b2i false)) = .int (b2i false) from narrow_b2i _) (congrArg (fun z => some (Value.int (b2i z))) (show (decide (rnk μ i left b < rnk μ i left a)) = false by unfold rnk; simp; omega)) rfl
    ·
      refine g_iconst h dX12_isBetter_38 (by decide) ?_
      refine g_goto h dX12_isBetter_39 ?_
      exact g_zret h hQ dX12_isBetter_43 (show narrow .boolean (.int (b2i true)) = .int (b2i true) from narrow_b2i _) (congrArg (fun z => some (Value.int (b2i z))) (show (decide (rnk μ i left b < rnk μ i left a)) = true by unfold rnk; simp; omega)) rfl

set_option maxRecDepth 100000 in
set_option maxHeartbeats 4000000 in
theorem r_leastOf {l : Launch} {w : Wd} (hW : Wi w) {σ : Mem} (i : Nat) (μ : Nat → Int32) (hv : vw 0 σ = μ) (hI : MI μ) (hi : i < 8) : MC l w qX12_leastOf 3 [.ref (w.1 0), .int (nI i)] σ (some (.int (lst μ i))) (fun σ' => σ' = σ) := by
  refine MC.of hW (by decide +kernel) (Nat.le_of_ble_eq_true rfl) (fun X h hQ hnm => ?_)
  have h : Fx X w cX12_leastOf 5 RX12 3 := h
  have hQ : Qx X w (some .int) (some (.int (lst μ i))) (fun σ' => σ' = σ) := hQ
  have hN8 := mi_8 hI
  show G X w 5 0 [(0, .ref (w.1 0)), (1, .int (nI i))] [] σ
  refine g_iconstv h dX12_leastOf_0 (v := (-1)) (by decide) ?_
  refine g_istore_n (L' := [(0, .ref (w.1 0)), (1, .int (nI i)), (2, .int (-1))]) h dX12_leastOf_1 rfl (by decide) rfl ?_
  refine g_aload_n h dX12_leastOf_2 0 rfl ?_
  refine g_iload_n h dX12_leastOf_3 1 rfl ?_
  refine g_cvpi (rest := []) h (r_willing hW i μ (by first | exact hv | assumption | fail) (by assumption) (by omega)) lX12_willing mX12_73 (Nat.lt_of_lt_of_le (by decide) (Nat.le_refl _)) (by decide) sc_0 rfl rfl rfl rfl dX12_leastOf_4 ?_
  refine g_istore_n (L' := [(0, .ref (w.1 0)), (1, .int (nI i)), (2, .int (-1)), (3, .int (wil μ i))]) h dX12_leastOf_7 rfl (by decide) rfl ?_
  refine g_iconst h dX12_leastOf_8 (by decide) ?_
  refine g_istore (L' := [(0, .ref (w.1 0)), (1, .int (nI i)), (2, .int (-1)), (3, .int (wil μ i)), (4, .int (nI 0))]) h dX12_leastOf_9 rfl (by decide) rfl ?_
  have lp11 : ∀ (k9 : Nat) (o : Option Nat) (j : Nat), (lsO μ i j = o) → (j ≤ 256) → (∀ b, o = some b → b < 256) → 256 - j < k9 → G X w 5 11 [(0, .ref (w.1 0)), (1, .int (nI i)), (2, .int (oI o)), (3, .int (wil μ i)), (4, .int (nI j))] [] σ := by
    intro k9
    induction k9 with
    | zero => intro o j ho hj hb hm9; exact absurd hm9 (Nat.not_lt_zero _)
    | succ k9 ih11 =>
      intro o j ho hj hb hm11
      refine g_iload h dX12_leastOf_11 4 rfl ?_
      refine g_sipush h dX12_leastOf_13 (by decide) ?_
      refine g_icmpN_ge h dX12_leastOf_16 (by omega) (by omega) (fun c16 => ?_) (fun c16 => ?_)
      ·
        refine g_iload_n h dX12_leastOf_72 2 rfl ?_
        exact g_iret h hQ dX12_leastOf_73 (congrArg (fun z => some (Value.int z)) (show (lst μ i) = (oI o) by have e9 : j = 256 := (by omega); subst e9; rw [← ho]; rfl)) rfl
      ·
        refine g_iload h dX12_leastOf_19 4 rfl ?_
        refine g_iload_n h dX12_leastOf_21 3 rfl ?_
        refine g_iconstv h dX12_leastOf_22 (v := (-1)) (by decide) ?_
        refine g_ixor h dX12_leastOf_23  ?_
        refine g_top (y := nots (wil μ i)) rfl ?_
        refine g_iand h dX12_leastOf_24  ?_
        refine g_if_ne h dX12_leastOf_25 (fun c25 => ?_) (fun c25 => ?_)
        ·
          refine g_iincN (b := 1) (L' := [(0, .ref (w.1 0)), (1, .int (nI i)), (2, .int (oI o)), (3, .int (wil μ i)), (4, .int (nI (j + 1)))]) h dX12_leastOf_66 4 rfl rfl (by decide) (by decide) rfl ?_
          refine g_goto h dX12_leastOf_69 ?_
          exact ih11 o (j + 1) (by first | (simp [lsO, ho, c16, c25]; done) | (simp [lsO, ho, c16, c25]; intros; omega) | fail | fail) (by omega) (by first | assumption | (intro b e; cases e; omega) | fail | fail) (by omega)
        ·
          refine g_aload_n h dX12_leastOf_28 0 rfl ?_
          refine g_iload_n h dX12_leastOf_29 1 rfl ?_
          refine g_cvpi (rest := []) h (r_behind hW i μ (by first | exact hv | assumption | fail) (by assumption) (by omega)) lX12_behind mX12_80 (Nat.lt_of_lt_of_le (by decide) (Nat.le_refl _)) (by decide) sc_0 rfl rfl rfl rfl dX12_leastOf_30 ?_
          refine g_aload_n h dX12_leastOf_33 0 rfl ?_
          refine g_iload_n h dX12_leastOf_34 1 rfl ?_
          refine g_iload h dX12_leastOf_35 4 rfl ?_
          refine g_cvpi (rest := [.int (bhd μ i)]) h (r_knownOf hW i (nI j) μ (by first | exact hv | assumption | fail) (by assumption) (by omega)) lX12_knownOf mX12_76 (Nat.lt_of_lt_of_le (by decide) (Nat.le_refl _)) (by decide) sc_0 rfl rfl rfl rfl dX12_leastOf_37 ?_
          refine g_iconstv h dX12_leastOf_40 (v := (-1)) (by decide) ?_
          refine g_ixor h dX12_leastOf_41  ?_
          refine g_top (y := nots (kno μ i (nI j))) rfl ?_
          refine g_iand h dX12_leastOf_42  ?_
          refine g_if_ne h dX12_leastOf_43 (fun c43 => ?_) (fun c43 => ?_)
          ·
            refine g_iincN (b := 1) (L' := [(0, .ref (w.1 0)), (1, .int (nI i)), (2, .int (oI o)), (3, .int (wil μ i)), (4, .int (nI (j + 1)))]) h dX12_leastOf_66 4 rfl rfl (by decide) (by decide) rfl ?_
            refine g_goto h dX12_leastOf_69 ?_
            exact ih11 o (j + 1) (by first | (simp [lsO, ho, c16, c25, c43]; done) | (simp [lsO, ho, c16, c25, c43]; intros; omega) | fail | fail) (by omega) (by first | assumption | (intro b e; cases e; omega) | fail | fail) (by omega)
          ·
            rcases o with _ | b
            ·
              show G X w 5 46 [(0, .ref (w.1 0)), (1, .int (nI i)), (2, .int (-1)), (3, .int (wil μ i)), (4, .int (nI j))] [] σ
              refine g_iload_n h dX12_leastOf_46 2 rfl ?_
              refine g_iconstv h dX12_leastOf_47 (v := (-1)) (by decide) ?_
              refine g_icmp_eq h dX12_leastOf_48 (fun c48 => ?_) (fun c48 => (by exfalso; first | exact c48 rfl | exact nI_ne_m1 (by omega) c48 | exact c48 (nI_ne_m1 (by omega)) | exact nI_le_m1 (by omega) c48 | exact c48 (m1_lt (by omega)) | exact absurd c48 (by decide)))
              refine g_iload h dX12_leastOf_63 4 rfl ?_
              refine g_istore_n (L' := [(0, .ref (w.1 0)), (1, .int (nI i)), (2, .int (nI j)), (3, .int (wil μ i)), (4, .int (nI j))]) h dX12_leastOf_65 rfl (by decide) rfl ?_
              refine g_iincN (b := 1) (L' := [(0, .ref (w.1 0)), (1, .int (nI i)), (2, .int (nI j)), (3, .int (wil μ i)), (4, .int (nI (j + 1)))]) h dX12_leastOf_66 4 rfl rfl (by decide) (by decide) rfl ?_
              refine g_goto h dX12_leastOf_69 ?_
              exact ih11 (some j) (j + 1) (by first | (simp [lsO, ho, c16, c25, c43]; done) | (simp [lsO, ho, c16, c25, c43]; intros; omega) | fail | fail) (by omega) (by first | assumption | (intro b e; cases e; omega) | fail | fail) (by omega)
            ·
              have hb9 := hb b rfl
              show G X w 5 46 [(0, .ref (w.1 0)), (1, .int (nI i)), (2, .int (nI b)), (3, .int (wil μ i)), (4, .int (nI j))] [] σ
              refine g_iload_n h dX12_leastOf_46 2 rfl ?_
              refine g_iconstv h dX12_leastOf_47 (v := (-1)) (by decide) ?_
              refine g_icmp_eq h dX12_leastOf_48 (fun c48 => (by exfalso; first | exact c48 rfl | exact nI_ne_m1 (by omega) c48 | exact c48 (nI_ne_m1 (by omega)) | exact nI_le_m1 (by omega) c48 | exact c48 (m1_lt (by omega)) | exact absurd c48 (by decide))) (fun c48 => ?_)
              refine g_iload h dX12_leastOf_51 4 rfl ?_
              refine g_cspi (rest := []) h (r_bitsN hW j (by omega)) lX12_bits mX12_83 (Nat.lt_of_lt_of_le (by decide) (Nat.le_refl _)) (by decide) rfl rfl rfl dX12_leastOf_53 ?_
              have p9_53 := pc_le (nI j)
              refine g_iload_n h dX12_leastOf_56 2 rfl ?_
              refine g_cspi (rest := [.int (nI (pc (nI j)))]) h (r_bitsN hW b (by omega)) lX12_bits mX12_83 (Nat.lt_of_lt_of_le (by decide) (Nat.le_refl _)) (by decide) rfl rfl rfl dX12_leastOf_57 ?_
              have p9_57 := pc_le (nI b)
              refine g_icmpN_ge h dX12_leastOf_60 (by omega) (by omega) (fun c60 => ?_) (fun c60 => ?_)
              ·
                refine g_iincN (b := 1) (L' := [(0, .ref (w.1 0)), (1, .int (nI i)), (2, .int (nI b)), (3, .int (wil μ i)), (4, .int (nI (j + 1)))]) h dX12_leastOf_66 4 rfl rfl (by decide) (by decide) rfl ?_
                refine g_goto h dX12_leastOf_69 ?_
                exact ih11 (some b) (j + 1) (by first | (simp [lsO, ho, c16, c25, c43, c60]; done) | (simp [lsO, ho, c16, c25, c43, c60]; intros; omega) | fail | fail) (by omega) (by first | assumption | (intro b e; cases e; omega) | fail | fail) (by omega)
              ·
                refine g_iload h dX12_leastOf_63 4 rfl ?_
                refine g_istore_n (L' := [(0, .ref (w.1 0)), (1, .int (nI i)), (2, .int (nI j)), (3, .int (wil μ i)), (4, .int (nI j))]) h dX12_leastOf_65 rfl (by decide) rfl ?_
                refine g_iincN (b := 1) (L' := [(0, .ref (w.1 0)), (1, .int (nI i)), (2, .int (nI j)), (3, .int (wil μ i)), (4, .int (nI (j + 1)))]) h dX12_leastOf_66 4 rfl rfl (by decide) (by decide) rfl ?_
                refine g_goto h dX12_leastOf_69 ?_
                exact ih11 (some j) (j + 1) (by first | (simp [lsO, ho, c16, c25, c43, c60]; done) | (simp [lsO, ho, c16, c25, c43, c60]; intros; omega) | fail | fail) (by omega) (by first | assumption | (intro b e; cases e; omega) | fail | fail) (by omega)
  exact lp11 (_) none 0 (by rfl) (by omega) (by intro b e; cases e) (Nat.lt_succ_self _)

set_option maxRecDepth 100000 in
set_option maxHeartbeats 4000000 in
theorem r_chosen {l : Launch} {w : Wd} (hW : Wi w) {σ : Mem} (i : Nat) (μ : Nat → Int32) (hv : vw 0 σ = μ) (hI : MI μ) (hi : i < 8) : MC l w qX12_chosen 4 [.ref (w.1 0), .int (nI i)] σ (some (.int (chos μ i))) (fun σ' => (PK μ i σ' 5012 5100) ∧ (∀ a, (a ≠ 5012 ∧ (a < 5100 ∨ 5108 ≤ a)) → σ' a = σ a)) := by
  refine MC.of hW (by decide +kernel) (Nat.le_of_ble_eq_true rfl) (fun X h hQ hnm => ?_)
  have h : Fx X w cX12_chosen 7 RX12 4 := h
  have hQ : Qx X w (some .int) (some (.int (chos μ i))) (fun σ' => (PK μ i σ' 5012 5100) ∧ (∀ a, (a ≠ 5012 ∧ (a < 5100 ∨ 5108 ≤ a)) → σ' a = σ a)) := hQ
  have hN8 := mi_8 hI
  show G X w 7 0 [(0, .ref (w.1 0)), (1, .int (nI i))] [] σ
  refine g_aload_n h dX12_chosen_0 0 rfl ?_
  refine g_iload_n h dX12_chosen_1 1 rfl ?_
  refine g_cvpi (rest := []) h (r_willing hW i μ (by first | exact hv | assumption | fail) (by assumption) (by omega)) lX12_willing mX12_73 (Nat.lt_of_lt_of_le (by decide) (Nat.le_refl _)) (by decide) sc_0 rfl rfl rfl rfl dX12_chosen_2 ?_
  refine g_istore_n (L' := [(0, .ref (w.1 0)), (1, .int (nI i)), (2, .int (wil μ i))]) h dX12_chosen_5 rfl (by decide) rfl ?_
  refine g_aload_n h dX12_chosen_6 0 rfl ?_
  refine g_iload_n h dX12_chosen_7 1 rfl ?_
  refine g_iload_n h dX12_chosen_8 2 rfl ?_
  refine g_cvpi (rest := []) h (r_aloneOf hW i (wil μ i) μ (by first | exact hv | assumption | fail) (by assumption) (by omega)) lX12_aloneOf mX12_86 (Nat.lt_of_lt_of_le (by decide) (Nat.le_refl _)) (by decide) sc_0 rfl rfl rfl rfl dX12_chosen_9 ?_
  refine g_istore_n (L' := [(0, .ref (w.1 0)), (1, .int (nI i)), (2, .int (wil μ i)), (3, .int (alo μ i (wil μ i) (bhd μ i)))]) h dX12_chosen_12 rfl (by decide) rfl ?_
  refine g_aload_n h dX12_chosen_13 0 rfl ?_
  refine g_iconst h dX12_chosen_14 (by decide) ?_
  refine g_puti h dX12_chosen_15 pX12_89 sc_0 rfl ?_
  refine g_nm (fun σa eσa => ?_)
  have eσa : σa = upd σ 5012 (nI 0) := eσa
  have hvσa : vw 0 σa = μ := by rw [eσa, vw_out (by omega)]; first | exact hv | assumption
  refine g_iconst h dX12_chosen_18 (by decide) ?_
  refine g_istore (L' := [(0, .ref (w.1 0)), (1, .int (nI i)), (2, .int (wil μ i)), (3, .int (alo μ i (wil μ i) (bhd μ i))), (4, .int (nI 0))]) h dX12_chosen_19 rfl (by decide) rfl ?_
  have lp21 : ∀ (k9 : Nat) (s : Int32) (j : Nat), (s = ful μ i j) → (j ≤ nN μ) → nN μ - j < k9 → G X w 7 21 [(0, .ref (w.1 0)), (1, .int (nI i)), (2, .int (wil μ i)), (3, .int s), (4, .int (nI j))] [] σa := by
    intro k9
    induction k9 with
    | zero => intro s j hs hj hm9; exact absurd hm9 (Nat.not_lt_zero _)
    | succ k9 ih21 =>
      intro s j hs hj hm21
      refine g_iload h dX12_chosen_21 4 rfl ?_
      refine g_aload_n h dX12_chosen_23 0 rfl ?_
      refine g_iconst h dX12_chosen_24 (by decide) ?_
      refine g_cvpi (rest := [.int (nI j)]) h (r_of hW 0 μ (by assumption) (by omega)) lX12_of mX12_61 (Nat.lt_of_lt_of_le (by decide) (Nat.le_refl _)) (by decide) sc_0 rfl rfl rfl rfl dX12_chosen_25 ?_
      refine g_top (y := nI (nN μ)) (mi_0 (by assumption)) ?_
      refine g_icmpN_ge h dX12_chosen_28 (by omega) (by omega) (fun c28 => ?_) (fun c28 => ?_)
      ·
        refine g_aload_n h dX12_chosen_71 0 rfl ?_
        refine g_iload_n h dX12_chosen_72 1 rfl ?_
        refine g_cvpi (rest := []) h (r_behind hW i μ (by first | exact hvσa | assumption | fail) (by assumption) (by omega)) lX12_behind mX12_80 (Nat.lt_of_lt_of_le (by decide) (Nat.le_refl _)) (by decide) sc_0 rfl rfl rfl rfl dX12_chosen_73 ?_
        refine g_aload_n h dX12_chosen_76 0 rfl ?_
        refine g_iload_n h dX12_chosen_77 1 rfl ?_
        refine g_iload_n h dX12_chosen_78 3 rfl ?_
        refine g_cvpi (rest := [.int (bhd μ i)]) h (r_knownOf hW i s μ (by first | exact hvσa | assumption | fail) (by assumption) (by omega)) lX12_knownOf mX12_76 (Nat.lt_of_lt_of_le (by decide) (Nat.le_refl _)) (by decide) sc_0 rfl rfl rfl rfl dX12_chosen_79 ?_
        refine g_iconstv h dX12_chosen_82 (v := (-1)) (by decide) ?_
        refine g_ixor h dX12_chosen_83  ?_
        refine g_top (y := nots (kno μ i s)) rfl ?_
        refine g_iand h dX12_chosen_84  ?_
        refine g_istore (L' := [(0, .ref (w.1 0)), (1, .int (nI i)), (2, .int (wil μ i)), (3, .int s), (4, .int ((bhd μ i) &&& (nots (kno μ i s))))]) h dX12_chosen_85 rfl (by decide) rfl ?_
        have lp87 : ∀ (k9 : Nat) (s : Int32) (left : Int32) (τ : Mem) (n : Nat), (s = pkS μ i n) → (left = opn μ i s) → (n + pc (opn μ i s) ≤ 8) → (τ 5012 = nI n) → (∀ m, m < n → ∃ x, pkB μ i (pkS μ i m) = some x ∧ τ (5100 + m) = nI x) → (vw 0 τ = μ) → (∀ a, (a ≠ 5012 ∧ (a < 5100 ∨ 5108 ≤ a)) → τ a = σ a) → pc (opn μ i s) < k9 → G X w 7 87 [(0, .ref (w.1 0)), (1, .int (nI i)), (2, .int (wil μ i)), (3, .int s), (4, .int left)] [] (τ) := by
          intro k9
          induction k9 with
          | zero => intro s left τ n hs hl hn hpk hli hvτ hf hm9; exact absurd hm9 (Nat.not_lt_zero _)
          | succ k9 ih87 =>
            intro s left τ n hs hl hn hpk hli hvτ hf hm87
            refine g_iload h dX12_chosen_87 4 rfl ?_
            refine g_if_eq h dX12_chosen_89 (fun c89 => ?_) (fun c89 => ?_)
            ·
              refine g_iconst h dX12_chosen_221 (by decide) ?_
              refine g_istore (L' := [(0, .ref (w.1 0)), (1, .int (nI i)), (2, .int (wil μ i)), (3, .int s), (4, .int left), (5, .int (nI 1))]) h dX12_chosen_222 rfl (by decide) rfl ?_
              have lp224 : ∀ (k9 : Nat) (s2 : Int32) (wl : Nat), (s2 = dW μ i (pkS μ i 8) wl) → (wl ≤ 7) → 7 - wl < k9 → G X w 7 224 [(0, .ref (w.1 0)), (1, .int (nI i)), (2, .int (wil μ i)), (3, .int s2), (4, .int left), (5, .int (nI wl))] [] (τ) := by
                intro k9
                induction k9 with
                | zero => intro s2 wl hs2 hw hm9; exact absurd hm9 (Nat.not_lt_zero _)
                | succ k9 ih224 =>
                  intro s2 wl hs2 hw hm224
                  refine g_iload h dX12_chosen_224 5 rfl ?_
                  refine g_bipush h dX12_chosen_226 (by decide) ?_
                  refine g_icmpN_ge h dX12_chosen_228 (by omega) (by omega) (fun c228 => ?_) (fun c228 => ?_)
                  ·
                    refine g_iload_n h dX12_chosen_313 3 rfl ?_
                    exact g_iret h hQ dX12_chosen_314 (congrArg (fun z => some (Value.int z)) (show (chos μ i) = s2 by have e9 : wl = 7 := (by omega); subst e9; exact hs2.symm)) (by exact ⟨⟨n, by omega, hpk, fun _ => (by rw [← hs]; exact pkB_0 (by rw [← hl]; exact c89)), hli⟩, hf⟩)
                  ·
                    refine g_aload_n h dX12_chosen_231 0 rfl ?_
                    refine g_iconst h dX12_chosen_232 (by decide) ?_
                    refine g_cvpi (rest := []) h (r_of hW 0 μ (by assumption) (by omega)) lX12_of mX12_61 (Nat.lt_of_lt_of_le (by decide) (Nat.le_refl _)) (by decide) sc_0 rfl rfl rfl rfl dX12_chosen_233 ?_
                    refine g_top (y := nI (nN μ)) (mi_0 (by assumption)) ?_
                    refine g_iconst h dX12_chosen_236 (by decide) ?_
                    refine g_isub h dX12_chosen_237  ?_
                    refine g_top (y := (pI (nN μ))) pI_of ?_
                    refine g_istore (L' := [(0, .ref (w.1 0)), (1, .int (nI i)), (2, .int (wil μ i)), (3, .int s2), (4, .int left), (5, .int (nI wl)), (6, .int (pI (nN μ)))]) h dX12_chosen_238 rfl (by decide) rfl ?_
                    have lp240 : ∀ (k9 : Nat) (s3 : Int32) (jj : Nat), (dS μ i wl jj s3 = dW μ i (pkS μ i 8) (wl + 1)) → (jj ≤ nN μ) → jj < k9 → G X w 7 240 [(0, .ref (w.1 0)), (1, .int (nI i)), (2, .int (wil μ i)), (3, .int s3), (4, .int left), (5, .int (nI wl)), (6, .int (pI jj))] [] (τ) := by
                      intro k9
                      induction k9 with
                      | zero => intro s3 jj hd hjj hm9; exact absurd hm9 (Nat.not_lt_zero _)
                      | succ k9 ih240 =>
                        intro s3 jj hd hjj hm240
                        rcases jj with _ | jq
                        ·
                          show G X w 7 240 [(0, .ref (w.1 0)), (1, .int (nI i)), (2, .int (wil μ i)), (3, .int s3), (4, .int left), (5, .int (nI wl)), (6, .int (-1))] [] (τ)
                          refine g_iload h dX12_chosen_240 6 rfl ?_
                          refine g_if_lt h dX12_chosen_242 (fun c242 => ?_) (fun c242 => absurd c242 (by decide))
                          refine g_iincN (b := 1) (L' := [(0, .ref (w.1 0)), (1, .int (nI i)), (2, .int (wil μ i)), (3, .int s3), (4, .int left), (5, .int (nI (wl + 1))), (6, .int (-1))]) h dX12_chosen_307 5 rfl rfl (by decide) (by decide) rfl ?_
                          refine g_goto h dX12_chosen_310 ?_
                          exact g_sub [0, 1, 2, 3, 4, 5] rfl (ih224 s3 (wl + 1) (by exact hd) (by omega) (by omega))
                        ·
                          show G X w 7 240 [(0, .ref (w.1 0)), (1, .int (nI i)), (2, .int (wil μ i)), (3, .int s3), (4, .int left), (5, .int (nI wl)), (6, .int (nI jq))] [] (τ)
                          refine g_iload h dX12_chosen_240 6 rfl ?_
                          refine g_ifN_lt h dX12_chosen_242 (by omega) ?_
                          refine g_iload_n h dX12_chosen_245 3 rfl ?_
                          refine g_iload h dX12_chosen_246 6 rfl ?_
                          refine g_cspi (rest := []) h (r_has hW s3 jq (by omega)) lX12_has mX12_65 (Nat.lt_of_lt_of_le (by decide) (Nat.le_refl _)) (by decide) rfl rfl rfl dX12_chosen_248 ?_
                          refine g_ifB_eq h dX12_chosen_251 (fun c251 => ?_) (fun c251 => ?_)
                          ·
                            refine g_iinc (v := (pI jq)) (L' := [(0, .ref (w.1 0)), (1, .int (nI i)), (2, .int (wil μ i)), (3, .int s3), (4, .int left), (5, .int (nI wl)), (6, .int (pI jq))]) h dX12_chosen_301 6 rfl rfl (by decide) pI_dec rfl ?_
                            refine g_goto h dX12_chosen_304 ?_
                            exact ih240 s3 jq (by rw [← hd]; simp [dS, c28, c89, c228, c251]) (by omega) (by omega)
                          ·
                            refine g_aload_n h dX12_chosen_254 0 rfl ?_
                            refine g_bipush h dX12_chosen_255 (by decide) ?_
                            refine g_iload h dX12_chosen_257 6 rfl ?_
                            refine g_iaddN h dX12_chosen_259  ?_
                            refine g_cvpi (rest := []) h (r_of hW (16 + jq) μ (by assumption) (by omega)) lX12_of mX12_61 (Nat.lt_of_lt_of_le (by decide) (Nat.le_refl _)) (by decide) sc_0 rfl rfl rfl rfl dX12_chosen_260 ?_
                            refine g_top (y := nI (nA μ (16 + jq))) (mi_16 (by assumption) (by omega)) ?_
                            have b9_260 : nA μ (16 + jq) < 8 := mb_16 (by assumption) (by omega)
                            refine g_iload h dX12_chosen_263 5 rfl ?_
                            refine g_icmpN_ne h dX12_chosen_265 (by omega) (by omega) (fun c265 => ?_) (fun c265 => ?_)
                            ·
                              refine g_iinc (v := (pI jq)) (L' := [(0, .ref (w.1 0)), (1, .int (nI i)), (2, .int (wil μ i)), (3, .int s3), (4, .int left), (5, .int (nI wl)), (6, .int (pI jq))]) h dX12_chosen_301 6 rfl rfl (by decide) pI_dec rfl ?_
                              refine g_goto h dX12_chosen_304 ?_
                              exact ih240 s3 jq (by rw [← hd]; simp [dS, c28, c89, c228, c251, c265]) (by omega) (by omega)
                            ·
                              refine g_aload_n h dX12_chosen_268 0 rfl ?_
                              refine g_iload_n h dX12_chosen_269 1 rfl ?_
                              refine g_cvpi (rest := []) h (r_behind hW i μ (by first | exact hvτ | assumption | fail) (by assumption) (by omega)) lX12_behind mX12_80 (Nat.lt_of_lt_of_le (by decide) (Nat.le_refl _)) (by decide) sc_0 rfl rfl rfl rfl dX12_chosen_270 ?_
                              refine g_aload_n h dX12_chosen_273 0 rfl ?_
                              refine g_iload_n h dX12_chosen_274 1 rfl ?_
                              refine g_iload_n h dX12_chosen_275 3 rfl ?_
                              refine g_iconst h dX12_chosen_276 (by decide) ?_
                              refine g_iload h dX12_chosen_277 6 rfl ?_
                              refine g_ishl h dX12_chosen_279  ?_
                              refine g_top (y := bt1 jq) rfl ?_
                              refine g_iconstv h dX12_chosen_280 (v := (-1)) (by decide) ?_
                              refine g_ixor h dX12_chosen_281  ?_
                              refine g_top (y := nots (bt1 jq)) rfl ?_
                              refine g_iand h dX12_chosen_282  ?_
                              refine g_cvpi (rest := [.int (bhd μ i)]) h (r_knownOf hW i (s3 &&& (nots (bt1 jq))) μ (by first | exact hvτ | assumption | fail) (by assumption) (by omega)) lX12_knownOf mX12_76 (Nat.lt_of_lt_of_le (by decide) (Nat.le_refl _)) (by decide) sc_0 rfl rfl rfl rfl dX12_chosen_283 ?_
                              refine g_iconstv h dX12_chosen_286 (v := (-1)) (by decide) ?_
                              refine g_ixor h dX12_chosen_287  ?_
                              refine g_top (y := nots (kno μ i (s3 &&& (nots (bt1 jq))))) rfl ?_
                              refine g_iand h dX12_chosen_288  ?_
                              refine g_if_ne h dX12_chosen_289 (fun c289 => ?_) (fun c289 => ?_)
                              ·
                                refine g_iinc (v := (pI jq)) (L' := [(0, .ref (w.1 0)), (1, .int (nI i)), (2, .int (wil μ i)), (3, .int s3), (4, .int left), (5, .int (nI wl)), (6, .int (pI jq))]) h dX12_chosen_301 6 rfl rfl (by decide) pI_dec rfl ?_
                                refine g_goto h dX12_chosen_304 ?_
                                exact ih240 s3 jq (by rw [← hd]; simp [dS, c28, c89, c228, c251, c265, c289]) (by omega) (by omega)
                              ·
                                refine g_iload_n h dX12_chosen_292 3 rfl ?_
                                refine g_iconst h dX12_chosen_293 (by decide) ?_
                                refine g_iload h dX12_chosen_294 6 rfl ?_
                                refine g_ishl h dX12_chosen_296  ?_
                                refine g_top (y := bt1 jq) rfl ?_
                                refine g_iconstv h dX12_chosen_297 (v := (-1)) (by decide) ?_
                                refine g_ixor h dX12_chosen_298  ?_
                                refine g_top (y := nots (bt1 jq)) rfl ?_
                                refine g_iand h dX12_chosen_299  ?_
                                refine g_istore_n (L' := [(0, .ref (w.1 0)), (1, .int (nI i)), (2, .int (wil μ i)), (3, .int (s3 &&& (nots (bt1 jq)))), (4, .int left), (5, .int (nI wl)), (6, .int (nI jq))]) h dX12_chosen_300 rfl (by decide) rfl ?_
                                refine g_iinc (v := (pI jq)) (L' := [(0, .ref (w.1 0)), (1, .int (nI i)), (2, .int (wil μ i)), (3, .int (s3 &&& (nots (bt1 jq)))), (4, .int left), (5, .int (nI wl)), (6, .int (pI jq))]) h dX12_chosen_301 6 rfl rfl (by decide) pI_dec rfl ?_
                                refine g_goto h dX12_chosen_304 ?_
                                exact ih240 (s3 &&& (nots (bt1 jq))) jq (by rw [← hd]; simp [dS, c28, c89, c228, c251, c265, c289]) (by omega) (by omega)
                    exact lp240 (_) s2 (nN μ) (by rw [hs2]; rfl) (by omega) (Nat.lt_succ_self _)
              exact lp224 (_) s 1 (by rw [dW_1 hI, hs]; exact (pkS_end hs (pkB_0 (by rw [← hl]; exact c89)) (by omega)).symm) (by omega) (Nat.lt_succ_self _)
            ·
              refine g_iconstv h dX12_chosen_92 (v := (-1)) (by decide) ?_
              refine g_istore (L' := [(0, .ref (w.1 0)), (1, .int (nI i)), (2, .int (wil μ i)), (3, .int s), (4, .int left), (5, .int (-1))]) h dX12_chosen_93 rfl (by decide) rfl ?_
              refine g_iconst h dX12_chosen_95 (by decide) ?_
              refine g_istore (L' := [(0, .ref (w.1 0)), (1, .int (nI i)), (2, .int (wil μ i)), (3, .int s), (4, .int left), (5, .int (-1)), (6, .int (nI 0))]) h dX12_chosen_96 rfl (by decide) rfl ?_
              have lp98 : ∀ (k9 : Nat) (o : Option Nat) (j : Nat), (bst μ i (wil μ i &&& nots s) left j = o) → (j ≤ nN μ) → (∀ b, o = some b → b < 8) → nN μ - j < k9 → G X w 7 98 [(0, .ref (w.1 0)), (1, .int (nI i)), (2, .int (wil μ i)), (3, .int s), (4, .int left), (5, .int (oI o)), (6, .int (nI j))] [] (τ) := by
                intro k9
                induction k9 with
                | zero => intro o j ho hj hb hm9; exact absurd hm9 (Nat.not_lt_zero _)
                | succ k9 ih98 =>
                  intro o j ho hj hb hm98
                  refine g_iload h dX12_chosen_98 6 rfl ?_
                  refine g_aload_n h dX12_chosen_100 0 rfl ?_
                  refine g_iconst h dX12_chosen_101 (by decide) ?_
                  refine g_cvpi (rest := [.int (nI j)]) h (r_of hW 0 μ (by assumption) (by omega)) lX12_of mX12_61 (Nat.lt_of_lt_of_le (by decide) (Nat.le_refl _)) (by decide) sc_0 rfl rfl rfl rfl dX12_chosen_102 ?_
                  refine g_top (y := nI (nN μ)) (mi_0 (by assumption)) ?_
                  refine g_icmpN_ge h dX12_chosen_105 (by omega) (by omega) (fun c105 => ?_) (fun c105 => ?_)
                  ·
                    have ho' : bst μ i (wil μ i &&& nots s) left (nN μ) = o := by rw [← show j = nN μ from by omega]; exact ho
                    obtain ⟨x, hx⟩ := pkB_ne (μ := μ) (i := i) (s := s) (by rw [← hl]; exact c89)
                    have eo : o = some x := by rw [← ho', hl]; exact hx
                    subst eo
                    obtain ⟨q1, q2, q3, q4⟩ := opn_pc hN8 (sb_opn hI hi) hx
                    show G X w 7 170 [(0, .ref (w.1 0)), (1, .int (nI i)), (2, .int (wil μ i)), (3, .int s), (4, .int left), (5, .int (nI x)), (6, .int (nI j))] [] (τ)
                    refine g_iload_n h dX12_chosen_170 3 rfl ?_
                    refine g_iconst h dX12_chosen_171 (by decide) ?_
                    refine g_iload h dX12_chosen_172 5 rfl ?_
                    refine g_ishl h dX12_chosen_174  ?_
                    refine g_top (y := bt1 x) rfl ?_
                    refine g_ior h dX12_chosen_175  ?_
                    refine g_istore_n (L' := [(0, .ref (w.1 0)), (1, .int (nI i)), (2, .int (wil μ i)), (3, .int (s ||| (bt1 x))), (4, .int left), (5, .int (nI x)), (6, .int (nI j))]) h dX12_chosen_176 rfl (by decide) rfl ?_
                    refine g_aload_n h dX12_chosen_177 0 rfl ?_
                    refine g_getr h dX12_chosen_178 gX12_13 sc_0 rfl ?_
                    refine g_aload_n h dX12_chosen_181 0 rfl ?_
                    refine g_geti h dX12_chosen_182 gX12_89 sc_0 rfl ?_
                    refine g_top (y := nI n) hpk ?_
                    refine g_iload h dX12_chosen_185 5 rfl ?_
                    refine g_iast h dX12_chosen_187 sc_2 (by omega) ?_
                    refine g_nm (fun σb eσb => ?_)
                    have eσb : σb = upd (τ) (5100 + n) (nI x) := eσb
                    have hvσb : vw 0 σb = μ := by rw [eσb, vw_out (by omega)]; first | exact hvτ | assumption
                    refine g_aload_n h dX12_chosen_188 0 rfl ?_
                    refine g_dup h dX12_chosen_189 rfl ?_
                    refine g_geti h dX12_chosen_190 gX12_89 sc_0 rfl ?_
                    refine g_top (y := (nI n)) (by rw [eσb, upd_ne (by omega)]; exact hpk) ?_
                    refine g_iconst h dX12_chosen_193 (by decide) ?_
                    refine g_iaddN h dX12_chosen_194  ?_
                    refine g_puti h dX12_chosen_195 pX12_89 sc_0 rfl ?_
                    refine g_nm (fun σc eσc => ?_)
                    have eσc : σc = upd σb 5012 (nI (n + 1)) := eσc
                    have hvσc : vw 0 σc = μ := by rw [eσc, vw_out (by omega)]; first | exact hvσb | assumption
                    refine g_iload h dX12_chosen_198 4 rfl ?_
                    refine g_aload_n h dX12_chosen_200 0 rfl ?_
                    refine g_sipush h dX12_chosen_201 (by decide) ?_
                    refine g_iload_n h dX12_chosen_204 1 rfl ?_
                    refine g_iload h dX12_chosen_205 5 rfl ?_
                    refine g_cspi (rest := [.ref (w.1 0), .int left]) h (r_two hW 144 i x ) lX12_two mX12_69 (Nat.lt_of_lt_of_le (by decide) (Nat.le_refl _)) (by decide) rfl rfl rfl dX12_chosen_207 ?_
                    refine g_cvpi (rest := [.int left]) h (r_of hW (144 + (8 * i + x)) μ (by assumption) (by omega)) lX12_of mX12_61 (Nat.lt_of_lt_of_le (by decide) (Nat.le_refl _)) (by decide) sc_0 rfl rfl rfl rfl dX12_chosen_210 ?_
                    refine g_iconstv h dX12_chosen_213 (v := (-1)) (by decide) ?_
                    refine g_ixor h dX12_chosen_214  ?_
                    refine g_top (y := nots (μ (144 + (8 * i + x)))) rfl ?_
                    refine g_iand h dX12_chosen_215  ?_
                    refine g_istore (L' := [(0, .ref (w.1 0)), (1, .int (nI i)), (2, .int (wil μ i)), (3, .int (s ||| (bt1 x))), (4, .int (left &&& (nots (μ (144 + (8 * i + x)))))), (5, .int (nI x)), (6, .int (nI j))]) h dX12_chosen_216 rfl (by decide) rfl ?_
                    refine g_goto h dX12_chosen_218 ?_
                    exact g_sub [0, 1, 2, 3, 4] rfl (ih87 (s ||| (bt1 x)) (left &&& (nots (μ (144 + (8 * i + x))))) σc (n + 1) (by simp [pkS, ← hs, hx]) (by rw [opn_or q1 hN8, hl]) (by have := q3; omega) (by rw [eσc]; exact upd_eq) (by exact pk_more hs hx hli eσb eσc) (by assumption) (by intro a ha; rw [eσc, upd_ne (by omega), eσb, upd_ne (by omega)]; exact hf a ha) (by have := q3; omega))
                  ·
                    refine g_iload_n h dX12_chosen_108 2 rfl ?_
                    refine g_iload_n h dX12_chosen_109 3 rfl ?_
                    refine g_iconstv h dX12_chosen_110 (v := (-1)) (by decide) ?_
                    refine g_ixor h dX12_chosen_111  ?_
                    refine g_top (y := nots s) rfl ?_
                    refine g_iand h dX12_chosen_112  ?_
                    refine g_iload h dX12_chosen_113 6 rfl ?_
                    refine g_cspi (rest := []) h (r_has hW ((wil μ i) &&& (nots s)) j (by omega)) lX12_has mX12_65 (Nat.lt_of_lt_of_le (by decide) (Nat.le_refl _)) (by decide) rfl rfl rfl dX12_chosen_115 ?_
                    refine g_ifB_eq h dX12_chosen_118 (fun c118 => ?_) (fun c118 => ?_)
                    ·
                      refine g_iincN (b := 1) (L' := [(0, .ref (w.1 0)), (1, .int (nI i)), (2, .int (wil μ i)), (3, .int s), (4, .int left), (5, .int (oI o)), (6, .int (nI (j + 1)))]) h dX12_chosen_164 6 rfl rfl (by decide) (by decide) rfl ?_
                      refine g_goto h dX12_chosen_167 ?_
                      exact ih98 o (j + 1) (by first | (simp [bst, ho, c28, c89, c105, c118]; done) | (simp at c157; simp [bst, ho, c28, c89, c105, c118]; intros; omega) | (simp at c157; simp [bst, ho, c28, c89, c105, c118, c137]; intros; omega) | fail | fail) (by omega) (by first | assumption | (intro b e; cases e; omega) | fail | fail) (by omega)
                    ·
                      refine g_aload_n h dX12_chosen_121 0 rfl ?_
                      refine g_sipush h dX12_chosen_122 (by decide) ?_
                      refine g_iload_n h dX12_chosen_125 1 rfl ?_
                      refine g_iload h dX12_chosen_126 6 rfl ?_
                      refine g_cspi (rest := [.ref (w.1 0)]) h (r_two hW 144 i j ) lX12_two mX12_69 (Nat.lt_of_lt_of_le (by decide) (Nat.le_refl _)) (by decide) rfl rfl rfl dX12_chosen_128 ?_
                      refine g_cvpi (rest := []) h (r_of hW (144 + (8 * i + j)) μ (by assumption) (by omega)) lX12_of mX12_61 (Nat.lt_of_lt_of_le (by decide) (Nat.le_refl _)) (by decide) sc_0 rfl rfl rfl rfl dX12_chosen_131 ?_
                      refine g_iload h dX12_chosen_134 4 rfl ?_
                      refine g_iand h dX12_chosen_136  ?_
                      refine g_if_eq h dX12_chosen_137 (fun c137 => ?_) (fun c137 => ?_)
                      ·
                        refine g_iincN (b := 1) (L' := [(0, .ref (w.1 0)), (1, .int (nI i)), (2, .int (wil μ i)), (3, .int s), (4, .int left), (5, .int (oI o)), (6, .int (nI (j + 1)))]) h dX12_chosen_164 6 rfl rfl (by decide) (by decide) rfl ?_
                        refine g_goto h dX12_chosen_167 ?_
                        exact ih98 o (j + 1) (by first | (simp [bst, ho, c28, c89, c105, c118, c137]; done) | (simp at c157; simp [bst, ho, c28, c89, c105, c118, c137]; intros; omega) | (simp at c157; simp [bst, ho, c28, c89, c105, c118, c137]; intros; omega) | fail | fail) (by omega) (by first | assumption | (intro b e; cases e; omega) | fail | fail) (by omega)
                      ·
                        rcases o with _ | b
                        ·
                          show G X w 7 140 [(0, .ref (w.1 0)), (1, .int (nI i)), (2, .int (wil μ i)), (3, .int s), (4, .int left), (5, .int (-1)), (6, .int (nI j))] [] (τ)
                          refine g_iload h dX12_chosen_140 5 rfl ?_
                          refine g_iconstv h dX12_chosen_142 (v := (-1)) (by decide) ?_
                          refine g_icmp_eq h dX12_chosen_143 (fun c143 => ?_) (fun c143 => (by exfalso; first | exact c143 rfl | exact nI_ne_m1 (by omega) c143 | exact c143 (nI_ne_m1 (by omega)) | exact nI_le_m1 (by omega) c143 | exact c143 (m1_lt (by omega)) | exact absurd c143 (by decide)))
                          refine g_iload h dX12_chosen_160 6 rfl ?_
                          refine g_istore (L' := [(0, .ref (w.1 0)), (1, .int (nI i)), (2, .int (wil μ i)), (3, .int s), (4, .int left), (5, .int (nI j)), (6, .int (nI j))]) h dX12_chosen_162 rfl (by decide) rfl ?_
                          refine g_iincN (b := 1) (L' := [(0, .ref (w.1 0)), (1, .int (nI i)), (2, .int (wil μ i)), (3, .int s), (4, .int left), (5, .int (nI j)), (6, .int (nI (j + 1)))]) h dX12_chosen_164 6 rfl rfl (by decide) (by decide) rfl ?_
                          refine g_goto h dX12_chosen_167 ?_
                          exact ih98 (some j) (j + 1) (by first | (simp [bst, ho, c28, c89, c105, c118, c137]; done) | (simp at c157; simp [bst, ho, c28, c89, c105, c118, c137]; intros; omega) | (simp at c157; simp [bst, ho, c28, c89, c105, c118, c137]; intros; omega) | fail | fail) (by omega) (by first | assumption | (intro b e; cases e; omega) | fail | fail) (by omega)
                        ·
                          have hb9 := hb b rfl
                          show G X w 7 140 [(0, .ref (w.1 0)), (1, .int (nI i)), (2, .int (wil μ i)), (3, .int s), (4, .int left), (5, .int (nI b)), (6, .int (nI j))] [] (τ)
                          refine g_iload h dX12_chosen_140 5 rfl ?_
                          refine g_iconstv h dX12_chosen_142 (v := (-1)) (by decide) ?_
                          refine g_icmp_eq h dX12_chosen_143 (fun c143 => (by exfalso; first | exact c143 rfl | exact nI_ne_m1 (by omega) c143 | exact c143 (nI_ne_m1 (by omega)) | exact nI_le_m1 (by omega) c143 | exact c143 (m1_lt (by omega)) | exact absurd c143 (by decide))) (fun c143 => ?_)
                          refine g_aload_n h dX12_chosen_146 0 rfl ?_
                          refine g_iload_n h dX12_chosen_147 1 rfl ?_
                          refine g_iload h dX12_chosen_148 6 rfl ?_
                          refine g_iload h dX12_chosen_150 5 rfl ?_
                          refine g_iload h dX12_chosen_152 4 rfl ?_
                          refine g_cvpi (rest := []) h (r_isBetter hW i j b left μ (by first | exact hvτ | assumption | fail) (by assumption) (by omega) (by omega) (by omega)) lX12_isBetter mX12_92 (Nat.lt_of_lt_of_le (by decide) (Nat.le_refl _)) (by decide) sc_0 rfl rfl rfl rfl dX12_chosen_154 ?_
                          refine g_ifB_eq h dX12_chosen_157 (fun c157 => ?_) (fun c157 => ?_)
                          ·
                            refine g_iincN (b := 1) (L' := [(0, .ref (w.1 0)), (1, .int (nI i)), (2, .int (wil μ i)), (3, .int s), (4, .int left), (5, .int (nI b)), (6, .int (nI (j + 1)))]) h dX12_chosen_164 6 rfl rfl (by decide) (by decide) rfl ?_
                            refine g_goto h dX12_chosen_167 ?_
                            exact ih98 (some b) (j + 1) (by first | (simp [bst, ho, c28, c89, c105, c118, c137, c157]; done) | (simp at c157; simp [bst, ho, c28, c89, c105, c118, c137, c157]; intros; omega) | (simp at c157; simp [bst, ho, c28, c89, c105, c118, c137]; intros; omega) | fail | fail) (by omega) (by first | assumption | (intro b e; cases e; omega) | fail | fail) (by omega)
                          ·
                            refine g_iload h dX12_chosen_160 6 rfl ?_
                            refine g_istore (L' := [(0, .ref (w.1 0)), (1, .int (nI i)), (2, .int (wil μ i)), (3, .int s), (4, .int left), (5, .int (nI j)), (6, .int (nI j))]) h dX12_chosen_162 rfl (by decide) rfl ?_
                            refine g_iincN (b := 1) (L' := [(0, .ref (w.1 0)), (1, .int (nI i)), (2, .int (wil μ i)), (3, .int s), (4, .int left), (5, .int (nI j)), (6, .int (nI (j + 1)))]) h dX12_chosen_164 6 rfl rfl (by decide) (by decide) rfl ?_
                            refine g_goto h dX12_chosen_167 ?_
                            exact ih98 (some j) (j + 1) (by first | (simp [bst, ho, c28, c89, c105, c118, c137, c157]; done) | (simp at c157; simp [bst, ho, c28, c89, c105, c118, c137, c157]; intros; omega) | (simp at c157; simp [bst, ho, c28, c89, c105, c118, c137]; intros; omega) | fail | fail) (by omega) (by first | assumption | (intro b e; cases e; omega) | fail | fail) (by omega)
              exact lp98 (_) none 0 (by rfl) (by omega) (by intro b e; cases e) (Nat.lt_succ_self _)
        exact lp87 (_) s ((bhd μ i) &&& (nots (kno μ i s))) σa 0 (by rw [hs, show j = nN μ from by omega]; rfl) (by rfl) (by have := pc_le (opn μ i s); omega) (by rw [eσa]; exact upd_eq) (by intro m hm; omega) (by assumption) (by intro a ha; rw [eσa, upd_ne (by omega)]) (Nat.lt_succ_self _)
      ·
        refine g_iload_n h dX12_chosen_31 3 rfl ?_
        refine g_iload_n h dX12_chosen_32 2 rfl ?_
        refine g_iload h dX12_chosen_33 4 rfl ?_
        refine g_cspi (rest := [.int s]) h (r_has hW (wil μ i) j (by omega)) lX12_has mX12_65 (Nat.lt_of_lt_of_le (by decide) (Nat.le_refl _)) (by decide) rfl rfl rfl dX12_chosen_35 ?_
        refine g_ifB_eq h dX12_chosen_38 (fun c38 => ?_) (fun c38 => ?_)
        ·
          refine g_iconst h dX12_chosen_62 (by decide) ?_
          refine g_ior h dX12_chosen_63  ?_
          refine g_istore_n (L' := [(0, .ref (w.1 0)), (1, .int (nI i)), (2, .int (wil μ i)), (3, .int (s ||| (nI 0))), (4, .int (nI j))]) h dX12_chosen_64 rfl (by decide) rfl ?_
          refine g_iincN (b := 1) (L' := [(0, .ref (w.1 0)), (1, .int (nI i)), (2, .int (wil μ i)), (3, .int (s ||| (nI 0))), (4, .int (nI (j + 1)))]) h dX12_chosen_65 4 rfl rfl (by decide) (by decide) rfl ?_
          refine g_goto h dX12_chosen_68 ?_
          exact ih21 (s ||| (nI 0)) (j + 1) (by first | rfl | (simp [hs, mkS, orS, fN, or_n0, ful, lsO, bst, c28, c38]; done) | (simp_all [mkS, orS, fN, or_n0, ful, lsO, bst]; done) | fail | fail) (by omega) (by omega)
        ·
          refine g_aload_n h dX12_chosen_41 0 rfl ?_
          refine g_bipush h dX12_chosen_42 (by decide) ?_
          refine g_iload h dX12_chosen_44 4 rfl ?_
          refine g_iaddN h dX12_chosen_46  ?_
          refine g_cvpi (rest := [.int s]) h (r_of hW (16 + j) μ (by assumption) (by omega)) lX12_of mX12_61 (Nat.lt_of_lt_of_le (by decide) (Nat.le_refl _)) (by decide) sc_0 rfl rfl rfl rfl dX12_chosen_47 ?_
          refine g_top (y := nI (nA μ (16 + j))) (mi_16 (by assumption) (by omega)) ?_
          have b9_47 : nA μ (16 + j) < 8 := mb_16 (by assumption) (by omega)
          refine g_bipush h dX12_chosen_50 (by decide) ?_
          refine g_icmpN_ne h dX12_chosen_52 (by omega) (by omega) (fun c52 => ?_) (fun c52 => ?_)
          ·
            refine g_iconst h dX12_chosen_62 (by decide) ?_
            refine g_ior h dX12_chosen_63  ?_
            refine g_istore_n (L' := [(0, .ref (w.1 0)), (1, .int (nI i)), (2, .int (wil μ i)), (3, .int (s ||| (nI 0))), (4, .int (nI j))]) h dX12_chosen_64 rfl (by decide) rfl ?_
            refine g_iincN (b := 1) (L' := [(0, .ref (w.1 0)), (1, .int (nI i)), (2, .int (wil μ i)), (3, .int (s ||| (nI 0))), (4, .int (nI (j + 1)))]) h dX12_chosen_65 4 rfl rfl (by decide) (by decide) rfl ?_
            refine g_goto h dX12_chosen_68 ?_
            exact ih21 (s ||| (nI 0)) (j + 1) (by first | rfl | (simp [hs, mkS, orS, fN, or_n0, ful, lsO, bst, c28, c38, c52]; done) | (simp_all [mkS, orS, fN, or_n0, ful, lsO, bst]; done) | fail | fail) (by omega) (by omega)
          ·
            refine g_iconst h dX12_chosen_55 (by decide) ?_
            refine g_iload h dX12_chosen_56 4 rfl ?_
            refine g_ishl h dX12_chosen_58  ?_
            refine g_top (y := bt1 j) rfl ?_
            refine g_goto h dX12_chosen_59 ?_
            refine g_ior h dX12_chosen_63  ?_
            refine g_istore_n (L' := [(0, .ref (w.1 0)), (1, .int (nI i)), (2, .int (wil μ i)), (3, .int (s ||| (bt1 j))), (4, .int (nI j))]) h dX12_chosen_64 rfl (by decide) rfl ?_
            refine g_iincN (b := 1) (L' := [(0, .ref (w.1 0)), (1, .int (nI i)), (2, .int (wil μ i)), (3, .int (s ||| (bt1 j))), (4, .int (nI (j + 1)))]) h dX12_chosen_65 4 rfl rfl (by decide) (by decide) rfl ?_
            refine g_goto h dX12_chosen_68 ?_
            exact ih21 (s ||| (bt1 j)) (j + 1) (by first | rfl | (simp [hs, mkS, orS, fN, or_n0, ful, lsO, bst, c28, c38, c52]; done) | (simp_all [mkS, orS, fN, or_n0, ful, lsO, bst]; done) | fail | fail) (by omega) (by omega)
  exact lp21 (_) (alo μ i (wil μ i) (bhd μ i)) 0 (by first | rfl | (simp [mkS, orS, fN, or_n0, ful, lsO, bst]; done) | fail | fail) (by omega) (Nat.lt_succ_self _)
