/-! paths, notices, sets -/
def ng (z : Int32) : Nat := if z < 0 then 1 else 0
theorem ng_0 {z : Int32} (h : ¬ z < 0) : ng z = 0 := if_neg h
theorem ng_1 {z : Int32} (h : z < 0) : ng z = 1 := if_pos h
theorem ng_lt {z : Int32} : ng z < 100 := by
  unfold ng
  split <;> decide
theorem toN_lt (z : Int32) : toN z < 2 ^ 31 := by
  show z.toInt.toNat < 2 ^ 31
  have := Int32.toInt_lt z
  omega
theorem tb_nI {k q : Nat} (hq : q < 32) : tb (nI k) q = k.testBit q := by
  show (BitVec.ofNat 32 k).getLsbD q = k.testBit q
  rw [BitVec.getLsbD_ofNat]
  simp [hq]
theorem set_N {z : Int32} {n : Nat} (hn : n ≤ 8) (h0 : 0 ≤ z) : z >>> (nI n &&& 31) = 0 ↔ z ≤ bt1 n - nI 1 := by
  have e := i32_N h0
  have hl := toN_lt z
  have hp : 2 ^ n ≤ 256 := Nat.pow_le_pow_right (n := 2) (by decide) hn
  have hp1 : 1 ≤ 2 ^ n := Nat.one_le_two_pow
  have eb : bt1 n - nI 1 = nI (2 ^ n - 1) := by
    rw [bt1_pow hn]
    obtain ⟨m, hm⟩ : ∃ m, 2 ^ n = m + 1 := ⟨2 ^ n - 1, by omega⟩
    rw [hm]
    exact nI_suc1
  rw [eb]
  have hle : z ≤ nI (2 ^ n - 1) ↔ toN z ≤ 2 ^ n - 1 := by
    conv => lhs; rw [e]
    exact nI_leq hl (by omega)
  rw [hle]
  constructor
  · intro h
    have hlt : toN z < 2 ^ n := by
      apply Nat.lt_pow_two_of_testBit
      intro q hq
      by_cases c : q < 32
      · rw [← tb_nI c, ← e]
        have h2 : tb (z >>> (nI n &&& 31)) (q - n) = false := by rw [h, tb_0]
        rw [tb_shr n (by omega) z (by omega), if_pos (by omega), show n + (q - n) = q from by omega] at h2
        exact h2
      · exact Nat.testBit_lt_two_pow (Nat.lt_of_lt_of_le hl (Nat.pow_le_pow_right (by decide) (by omega)))
    omega
  · intro h
    have hno : ∀ q, n ≤ q → q < 32 → tb z q = false := fun q h1 h2 => by
      rw [e, tb_nI h2]
      exact Nat.testBit_lt_two_pow (Nat.lt_of_lt_of_le (show toN z < 2 ^ n by omega) (Nat.pow_le_pow_right (by decide) h1))
    apply s_ext
    intro q hq
    rw [tb_shr n (by omega) z hq, tb_0]
    split
    · exact hno (n + q) (by omega) (by omega)
    · exact hno 31 (by omega) (by omega)
theorem sB_0 {μ : Nat → Int32} {z : Int32} (h8 : nN μ ≤ 8) : sB μ z = 0 ↔ (0 ≤ z ∧ z >>> (nI (nN μ) &&& 31) = 0) := by
  unfold sB rg
  have e0 : nI 0 = (0 : Int32) := rfl
  by_cases c : 0 ≤ z
  · rw [set_N h8 c, e0, decide_eq_true c, Bool.true_and]
    by_cases d : z ≤ bt1 (nN μ) - nI 1
    · simp [c, d]
    · simp [c, d]
  · rw [e0, decide_eq_false c]
    simp [c]

set_option maxRecDepth 100000 in
set_option maxHeartbeats 4000000 in
theorem r_isSet {l : Launch} {w : Wd} (hW : Wi w) {σ : Mem} (z : Int32) (μ : Nat → Int32) (hv : vw 0 σ = μ) (hI : MI μ) : MC l w qX12_isSet 1 [.ref (w.1 0), .int z] σ (some (.int (b2i (decide (sB μ z = 0))))) (fun σ' => σ' = σ) := by
  refine MC.of hW (by decide +kernel) (Nat.le_of_ble_eq_true rfl) (fun X h hQ hnm => ?_)
  have h : Fx X w cX12_isSet 2 RX12 1 := h
  have hQ : Qx X w (some .boolean) (some (.int (b2i (decide (sB μ z = 0))))) (fun σ' => σ' = σ) := hQ
  have hN8 := mi_8 hI
  show G X w 2 0 [(0, .ref (w.1 0)), (1, .int z)] [] σ
  refine g_iload_n h dX12_isSet_0 1 rfl ?_
  refine g_if_lt h dX12_isSet_1 (fun c1 => ?_) (fun c1 => ?_)
  ·
    refine g_iconst h dX12_isSet_18 (by decide) ?_
    exact g_zret h hQ dX12_isSet_19 (show narrow .boolean (.int (b2i false)) = .int (b2i false) from narrow_b2i _) (congrArg (fun z => some (Value.int (b2i z))) (show (decide (sB μ z = 0)) = false by first | exact decide_eq_true ((sB_0 hN8).mpr ⟨Int32.not_lt.mp c1, c11⟩) | exact decide_eq_false (fun q9 => c11 ((sB_0 hN8).mp q9).2) | exact decide_eq_false (fun q9 => Int32.not_lt.mpr ((sB_0 hN8).mp q9).1 c1) | fail | fail)) rfl
  ·
    refine g_iload_n h dX12_isSet_4 1 rfl ?_
    refine g_aload_n h dX12_isSet_5 0 rfl ?_
    refine g_iconst h dX12_isSet_6 (by decide) ?_
    refine g_cvpi (rest := [.int z]) h (r_of hW 0 μ (by assumption) (by omega)) lX12_of mX12_61 (Nat.lt_of_lt_of_le (by decide) (Nat.le_refl _)) (by decide) sc_0 rfl rfl rfl rfl dX12_isSet_7 ?_
    refine g_top (y := nI (nN μ)) (mi_0 (by assumption)) ?_
    refine g_ishr h dX12_isSet_10  ?_
    refine g_if_ne h dX12_isSet_11 (fun c11 => ?_) (fun c11 => ?_)
    ·
      refine g_iconst h dX12_isSet_18 (by decide) ?_
      exact g_zret h hQ dX12_isSet_19 (show narrow .boolean (.int (b2i false)) = .int (b2i false) from narrow_b2i _) (congrArg (fun z => some (Value.int (b2i z))) (show (decide (sB μ z = 0)) = false by first | exact decide_eq_true ((sB_0 hN8).mpr ⟨Int32.not_lt.mp c1, c11⟩) | exact decide_eq_false (fun q9 => c11 ((sB_0 hN8).mp q9).2) | exact decide_eq_false (fun q9 => Int32.not_lt.mpr ((sB_0 hN8).mp q9).1 c1) | fail | fail)) rfl
    ·
      refine g_iconst h dX12_isSet_14 (by decide) ?_
      refine g_goto h dX12_isSet_15 ?_
      exact g_zret h hQ dX12_isSet_19 (show narrow .boolean (.int (b2i true)) = .int (b2i true) from narrow_b2i _) (congrArg (fun z => some (Value.int (b2i z))) (show (decide (sB μ z = 0)) = true by first | exact decide_eq_true ((sB_0 hN8).mpr ⟨Int32.not_lt.mp c1, c11⟩) | exact decide_eq_false (fun q9 => c11 ((sB_0 hN8).mp q9).2) | exact decide_eq_false (fun q9 => Int32.not_lt.mpr ((sB_0 hN8).mp q9).1 c1) | fail | fail)) rfl

set_option maxRecDepth 100000 in
set_option maxHeartbeats 4000000 in
theorem c_sB {l : Launch} {w : Wd} (hW : Wi w) {σ : Mem} (z : Int32) (μ : Nat → Int32) (hv : vw (vb 0) σ = μ) (hI : MI μ) : MC l w qX11_setStatus 1 [.ref (w.1 12), .int z] σ (some (.int (nI (sB μ z)))) (fun σ' => σ' = σ) := by
  refine MC.of hW (by decide +kernel) (Nat.le_of_ble_eq_true rfl) (fun X h hQ hnm => ?_)
  have h : Fx X w cX11_setStatus 2 RX11 1 := h
  have hQ : Qx X w (some .int) (some (.int (nI (sB μ z)))) (fun σ' => σ' = σ) := hQ
  have hN8 := mi_8 hI
  show G X w 2 0 [(0, .ref (w.1 12)), (1, .int z)] [] σ
  refine g_iload_n h dX11_setStatus_0 1 rfl ?_
  refine g_iconst h dX11_setStatus_1 (by decide) ?_
  refine g_iconst h dX11_setStatus_2 (by decide) ?_
  refine g_aload_n h dX11_setStatus_3 0 rfl ?_
  refine g_getr h dX11_setStatus_4 gX11_23 sc_12 rfl ?_
  refine g_geti h dX11_setStatus_7 gX11_120 (sM_0 (m := 0) (by decide)) rfl ?_
  refine g_top (y := μ 0) (vw_pic (b := (vb 0)) (k := 0) (by first | exact hv | assumption) (by omega)) ?_
  refine g_top (y := nI (nN μ)) (mi_0 (by assumption)) ?_
  refine g_ishl h dX11_setStatus_10  ?_
  refine g_top (y := bt1 (nN μ)) rfl ?_
  refine g_iconst h dX11_setStatus_11 (by decide) ?_
  refine g_isub h dX11_setStatus_12  ?_
  refine g_cspi (rest := []) h (c_rg hW z (nI 0) ((bt1 (nN μ)) - (nI 1)) ) lX11_rangeStatus mX11_102 (Nat.lt_of_lt_of_le (by decide) (Nat.le_refl _)) (by decide) rfl rfl rfl dX11_setStatus_13 ?_
  exact g_iret h hQ dX11_setStatus_16 (congrArg (fun z => some (Value.int z)) (show (nI (sB μ z)) = (nI (rg z (nI 0) ((bt1 (nN μ)) - (nI 1)))) by rfl)) rfl

set_option maxRecDepth 100000 in
set_option maxHeartbeats 4000000 in
theorem q_covers {l : Launch} {w : Wd} (hW : Wi w) {σ : Mem} (i : Int32) (z : Int32)  (μ : Nat → Int32) (hv : vw 0 σ = μ) (hI : MI μ) : MC l w qX12_covers 3 [.ref (w.1 0), .int i, .int z] σ (some (.int (an (fo (sB μ z) (ns μ i)) (bhd μ (toN i) &&& kno μ (toN i) (z &&& μ (64 + toN i)))))) (fun σ' => (σ' 4000 = (nI (fo (sB μ z) (ns μ i)))) ∧ (∀ a, ((a < 4900 ∨ 6000 ≤ a) ∧ a ≠ 4000) → σ' a = σ a)) := by
  refine MC.of hW (by decide +kernel) (Nat.le_of_ble_eq_true rfl) (fun X h hQ hnm => ?_)
  have h : Fx X w cX12_covers 3 RX12 3 := h
  have hQ : Qx X w (some .int) (some (.int (an (fo (sB μ z) (ns μ i)) (bhd μ (toN i) &&& kno μ (toN i) (z &&& μ (64 + toN i)))))) (fun σ' => (σ' 4000 = (nI (fo (sB μ z) (ns μ i)))) ∧ (∀ a, ((a < 4900 ∨ 6000 ≤ a) ∧ a ≠ 4000) → σ' a = σ a)) := hQ
  have hN8 := mi_8 hI
  have hcFR_σ : ∀ a, ((a < 4900 ∨ 6000 ≤ a) ∧ a ≠ 4000) → σ a = σ a := fun _ _ => rfl
  show G X w 3 0 [(0, .ref (w.1 0)), (1, .int i), (2, .int z)] [] σ
  refine g_aload_n h dX12_covers_0 0 rfl ?_
  refine g_iload_n h dX12_covers_1 2 rfl ?_
  refine g_cvpi (rest := []) h (r_isSet hW z μ (by first | exact hv | assumption | fail) (by assumption)) lX12_isSet mX12_296 (Nat.lt_of_lt_of_le (by decide) (Nat.le_refl _)) (by decide) sc_0 rfl rfl rfl rfl dX12_covers_2 ?_
  refine g_ifB_ne h dX12_covers_5 (fun c5 => ?_) (fun c5 => ?_)
  ·
    refine g_aload_n h dX12_covers_14 0 rfl ?_
    refine g_iload_n h dX12_covers_15 1 rfl ?_
    refine g_cvpi (rest := []) h (r_isNode hW i μ (by first | exact hv | assumption | fail)) lX12_isNode mX12_287 (Nat.lt_of_lt_of_le (by decide) (Nat.le_refl _)) (by decide) sc_0 rfl rfl rfl rfl dX12_covers_16 ?_
    refine g_ifB_eq h dX12_covers_19 (fun c19 => ?_) (fun c19 => ?_)
    ·
      refine g_aload_n h dX12_covers_50 0 rfl ?_
      refine g_iconst h dX12_covers_51 (by decide) ?_
      refine g_cvi (rest := []) h (r_refuse hW (nI 2) ) lX12_refuse mX12_272 (Nat.lt_of_lt_of_le (by decide) (Nat.le_refl _)) (by decide) sc_0 rfl rfl rfl rfl dX12_covers_52 (fun σ_1 eσ_1 => ?_)
      have eσ_1_a : σ_1 = upd σ 4000 (nI 2) := eσ_1
      have ht4000_σ_1 : σ_1 4000 = (nI 2) := by rw [eσ_1_a]; exact upd_eq
      have hcFR_σ_1 : ∀ a, ((a < 4900 ∨ 6000 ≤ a) ∧ a ≠ 4000) → σ_1 a = σ a := by intro a ha; exact Eq.trans (b := σ a) (by rw [eσ_1_a, upd_ne (by first | omega | (simp only [vb] at *; omega))]) (hcFR_σ a ha)
      have hvσ_1 : vw 0 σ_1 = μ := by rw [eσ_1_a, vw_out (by omega)]; first | exact hv | assumption
      exact g_iret h hQ dX12_covers_55 (congrArg (fun z => some (Value.int z)) (show (an (fo (sB μ z) (ns μ i)) (bhd μ (toN i) &&& kno μ (toN i) (z &&& μ (64 + toN i)))) = (-1) by first | exact an_yes (by first | (simp [fo, ns, nB, hs1, c19]; done) | (have q9 : sB μ z = 0 := of_decide_eq_true c5; simp [fo, ns, nB, q9, c19]; done) | (have q9 : ¬ sB μ z = 0 := of_decide_eq_false c5; rw [fo_l q9]; unfold sB rg at q9 ⊢; split <;> simp_all; done) | fail) (by first | rfl | (simp [an, c5, c19]; done) | (simp [an, c5, c19]; rfl)) | exact an_no (k := 2) (by first | (simp [fo, ns, nB, hs1, c19]; done) | (have q9 : sB μ z = 0 := of_decide_eq_true c5; simp [fo, ns, nB, q9, c19]; done) | (have q9 : ¬ sB μ z = 0 := of_decide_eq_false c5; rw [fo_l q9]; unfold sB rg at q9 ⊢; split <;> simp_all; done) | fail) (by first | decide | omega | assumption | exact nb1 (by assumption)) | fail)) (by exact ⟨(by first | exact tk_eq (k := 2) (by first | (simp [fo, ns, nB, hs1, c19]; done) | (have q9 : sB μ z = 0 := of_decide_eq_true c5; simp [fo, ns, nB, q9, c19]; done) | (have q9 : ¬ sB μ z = 0 := of_decide_eq_false c5; rw [fo_l q9]; unfold sB rg at q9 ⊢; split <;> simp_all; done) | fail) ht4000_σ_1 | exact tk_eq (k := 2) (by first | (simp [fo, ns, nB, hs1, c19]; done) | (have q9 : sB μ z = 0 := of_decide_eq_true c5; simp [fo, ns, nB, q9, c19]; done) | (have q9 : ¬ sB μ z = 0 := of_decide_eq_false c5; rw [fo_l q9]; unfold sB rg at q9 ⊢; split <;> simp_all; done) | fail) ht4000_σ_1 | fail), (by exact hcFR_σ_1)⟩)
    ·
      have hs1 : sB μ z = 0 := of_decide_eq_true c5
      obtain ⟨ei, hi9⟩ := nB_N hI (show nB μ i = true from c19)
      rw [ei]
      show G X w 3 22 [(0, .ref (w.1 0)), (1, .int (nI (toN i))), (2, .int z)] [] σ
      refine g_aload_n h dX12_covers_22 0 rfl ?_
      refine g_aload_n h dX12_covers_23 0 rfl ?_
      refine g_iload_n h dX12_covers_24 1 rfl ?_
      refine g_cvpi (rest := [.ref (w.1 0)]) h (r_behind hW (toN i) μ (by first | exact hv | assumption | fail) (by assumption) (by omega)) lX12_behind mX12_80 (Nat.lt_of_lt_of_le (by decide) (Nat.le_refl _)) (by decide) sc_0 rfl rfl rfl rfl dX12_covers_25 ?_
      refine g_aload_n h dX12_covers_28 0 rfl ?_
      refine g_iload_n h dX12_covers_29 1 rfl ?_
      refine g_iload_n h dX12_covers_30 2 rfl ?_
      refine g_aload_n h dX12_covers_31 0 rfl ?_
      refine g_bipush h dX12_covers_32 (by decide) ?_
      refine g_iload_n h dX12_covers_34 1 rfl ?_
      refine g_iaddN h dX12_covers_35  ?_
      refine g_cvpi (rest := [.int z, .int (nI (toN i)), .ref (w.1 0), .int (bhd μ (toN i)), .ref (w.1 0)]) h (r_of hW (64 + toN i) μ (by assumption) (by omega)) lX12_of mX12_61 (Nat.lt_of_lt_of_le (by decide) (Nat.le_refl _)) (by decide) sc_0 rfl rfl rfl rfl dX12_covers_36 ?_
      refine g_iand h dX12_covers_39  ?_
      refine g_cvpi (rest := [.int (bhd μ (toN i)), .ref (w.1 0)]) h (r_knownOf hW (toN i) (z &&& (μ (64 + toN i))) μ (by first | exact hv | assumption | fail) (by assumption) (by omega)) lX12_knownOf mX12_76 (Nat.lt_of_lt_of_le (by decide) (Nat.le_refl _)) (by decide) sc_0 rfl rfl rfl rfl dX12_covers_40 ?_
      refine g_iand h dX12_covers_43  ?_
      refine g_cvi (rest := []) h (r_gives hW ((bhd μ (toN i)) &&& (kno μ (toN i) (z &&& (μ (64 + toN i))))) ) lX12_gives mX12_281 (Nat.lt_of_lt_of_le (by decide) (Nat.le_refl _)) (by decide) sc_0 rfl rfl rfl rfl dX12_covers_44 (fun σ_2 eσ_2 => ?_)
      have eσ_2_a : σ_2 = upd σ 4000 (nI 0) := eσ_2
      have ht4000_σ_2 : σ_2 4000 = (nI 0) := by rw [eσ_2_a]; exact upd_eq
      have hcFR_σ_2 : ∀ a, ((a < 4900 ∨ 6000 ≤ a) ∧ a ≠ 4000) → σ_2 a = σ a := by intro a ha; exact Eq.trans (b := σ a) (by rw [eσ_2_a, upd_ne (by first | omega | (simp only [vb] at *; omega))]) (hcFR_σ a ha)
      have hvσ_2 : vw 0 σ_2 = μ := by rw [eσ_2_a, vw_out (by omega)]; first | exact hv | assumption
      refine g_goto h dX12_covers_47 ?_
      exact g_iret h hQ dX12_covers_55 (congrArg (fun z => some (Value.int z)) (show (an (fo (sB μ z) (ns μ i)) (bhd μ (toN i) &&& kno μ (toN i) (z &&& μ (64 + toN i)))) = ((bhd μ (toN i)) &&& (kno μ (toN i) (z &&& (μ (64 + toN i))))) by first | exact an_yes (by first | (simp [fo, ns, nB, hs1, c19]; done) | (have q9 : sB μ z = 0 := of_decide_eq_true c5; simp [fo, ns, nB, q9, c19]; done) | (have q9 : ¬ sB μ z = 0 := of_decide_eq_false c5; rw [fo_l q9]; unfold sB rg at q9 ⊢; split <;> simp_all; done) | fail) (by first | rfl | (simp [an, c5, c19]; done) | (simp [an, c5, c19]; rfl)) | exact an_no (k := 0) (by first | (simp [fo, ns, nB, hs1, c19]; done) | (have q9 : sB μ z = 0 := of_decide_eq_true c5; simp [fo, ns, nB, q9, c19]; done) | (have q9 : ¬ sB μ z = 0 := of_decide_eq_false c5; rw [fo_l q9]; unfold sB rg at q9 ⊢; split <;> simp_all; done) | fail) (by first | decide | omega | assumption | exact nb1 (by assumption)) | fail)) (by exact ⟨(by first | exact tk_eq (k := 0) (by first | (simp [fo, ns, nB, hs1, c19]; done) | (have q9 : sB μ z = 0 := of_decide_eq_true c5; simp [fo, ns, nB, q9, c19]; done) | (have q9 : ¬ sB μ z = 0 := of_decide_eq_false c5; rw [fo_l q9]; unfold sB rg at q9 ⊢; split <;> simp_all; done) | fail) ht4000_σ_2 | exact tk_eq (k := 0) (by first | (simp [fo, ns, nB, hs1, c19]; done) | (have q9 : sB μ z = 0 := of_decide_eq_true c5; simp [fo, ns, nB, q9, c19]; done) | (have q9 : ¬ sB μ z = 0 := of_decide_eq_false c5; rw [fo_l q9]; unfold sB rg at q9 ⊢; split <;> simp_all; done) | fail) ht4000_σ_2 | fail), (by exact hcFR_σ_2)⟩)
  ·
    refine g_aload_n h dX12_covers_8 0 rfl ?_
    refine g_iconst h dX12_covers_9 (by decide) ?_
    refine g_cvi (rest := []) h (r_refuse hW (nI 1) ) lX12_refuse mX12_272 (Nat.lt_of_lt_of_le (by decide) (Nat.le_refl _)) (by decide) sc_0 rfl rfl rfl rfl dX12_covers_10 (fun σ_3 eσ_3 => ?_)
    have eσ_3_a : σ_3 = upd σ 4000 (nI 1) := eσ_3
    have ht4000_σ_3 : σ_3 4000 = (nI 1) := by rw [eσ_3_a]; exact upd_eq
    have hcFR_σ_3 : ∀ a, ((a < 4900 ∨ 6000 ≤ a) ∧ a ≠ 4000) → σ_3 a = σ a := by intro a ha; exact Eq.trans (b := σ a) (by rw [eσ_3_a, upd_ne (by first | omega | (simp only [vb] at *; omega))]) (hcFR_σ a ha)
    have hvσ_3 : vw 0 σ_3 = μ := by rw [eσ_3_a, vw_out (by omega)]; first | exact hv | assumption
    exact g_iret h hQ dX12_covers_13 (congrArg (fun z => some (Value.int z)) (show (an (fo (sB μ z) (ns μ i)) (bhd μ (toN i) &&& kno μ (toN i) (z &&& μ (64 + toN i)))) = (-1) by first | exact an_yes (by first | (simp [fo, ns, nB, hs1, c19]; done) | (have q9 : sB μ z = 0 := of_decide_eq_true c5; simp [fo, ns, nB, q9, c19]; done) | (have q9 : ¬ sB μ z = 0 := of_decide_eq_false c5; rw [fo_l q9]; unfold sB rg at q9 ⊢; split <;> simp_all; done) | fail) (by first | rfl | (simp [an, c5]; done) | (simp [an, c5]; rfl)) | exact an_no (k := 1) (by first | (simp [fo, ns, nB, hs1, c19]; done) | (have q9 : sB μ z = 0 := of_decide_eq_true c5; simp [fo, ns, nB, q9, c19]; done) | (have q9 : ¬ sB μ z = 0 := of_decide_eq_false c5; rw [fo_l q9]; unfold sB rg at q9 ⊢; split <;> simp_all; done) | fail) (by first | decide | omega | assumption | exact nb1 (by assumption)) | fail)) (by exact ⟨(by first | exact tk_eq (k := 1) (by first | (simp [fo, ns, nB, hs1, c19]; done) | (have q9 : sB μ z = 0 := of_decide_eq_true c5; simp [fo, ns, nB, q9, c19]; done) | (have q9 : ¬ sB μ z = 0 := of_decide_eq_false c5; rw [fo_l q9]; unfold sB rg at q9 ⊢; split <;> simp_all; done) | fail) ht4000_σ_3 | exact tk_eq (k := 1) (by first | (simp [fo, ns, nB, hs1, c19]; done) | (have q9 : sB μ z = 0 := of_decide_eq_true c5; simp [fo, ns, nB, q9, c19]; done) | (have q9 : ¬ sB μ z = 0 := of_decide_eq_false c5; rw [fo_l q9]; unfold sB rg at q9 ⊢; split <;> simp_all; done) | fail) ht4000_σ_3 | fail), (by exact hcFR_σ_3)⟩)

set_option maxRecDepth 100000 in
set_option maxHeartbeats 4000000 in
theorem p_covers {l : Launch} {w : Wd} (hW : Wi w) {σ : Mem} (i : Int32) (z : Int32)  (μ : Nat → Int32) (hv : vw (vb 0) σ = μ) (hI : MI μ) : MC l w qX11_covers 3 [.ref (w.1 12), .int i, .int z] σ (some (.int (an (fo (sB μ z) (ns μ i)) (bhd μ (toN i) &&& kno μ (toN i) (z &&& μ (64 + toN i)))))) (fun σ' => (σ' 14000 = (nI (fo (sB μ z) (ns μ i)))) ∧ (∀ a, (a < 14900 ∧ a ≠ 14000) → σ' a = σ a)) := by
  refine MC.of hW (by decide +kernel) (Nat.le_of_ble_eq_true rfl) (fun X h hQ hnm => ?_)
  have h : Fx X w cX11_covers 4 RX11 3 := h
  have hQ : Qx X w (some .int) (some (.int (an (fo (sB μ z) (ns μ i)) (bhd μ (toN i) &&& kno μ (toN i) (z &&& μ (64 + toN i)))))) (fun σ' => (σ' 14000 = (nI (fo (sB μ z) (ns μ i)))) ∧ (∀ a, (a < 14900 ∧ a ≠ 14000) → σ' a = σ a)) := hQ
  have hN8 := mi_8 hI
  have hcFR_σ : ∀ a, (a < 14900 ∧ a ≠ 14000) → σ a = σ a := fun _ _ => rfl
  show G X w 4 0 [(0, .ref (w.1 12)), (1, .int i), (2, .int z)] [] σ
  refine g_aload_n h dX11_covers_0 0 rfl ?_
  refine g_aload_n h dX11_covers_1 0 rfl ?_
  refine g_iload_n h dX11_covers_2 2 rfl ?_
  refine g_cvpi (rest := [.ref (w.1 12)]) h (c_sB hW z μ (by first | exact hv | assumption | fail) (by assumption)) lX11_setStatus mX11_253 (Nat.lt_of_lt_of_le (by decide) (Nat.le_refl _)) (by decide) sc_12 rfl rfl rfl rfl dX11_covers_3 ?_
  refine g_aload_n h dX11_covers_6 0 rfl ?_
  refine g_iload_n h dX11_covers_7 1 rfl ?_
  refine g_cvpi (rest := [.int (nI (sB μ z)), .ref (w.1 12)]) h (c_ns hW i μ (by first | exact hv | assumption | fail)) lX11_nodeStatus mX11_159 (Nat.lt_of_lt_of_le (by decide) (Nat.le_refl _)) (by decide) sc_12 rfl rfl rfl rfl dX11_covers_8 ?_
  refine g_cspi (rest := [.ref (w.1 12)]) h (c_fo hW (sB μ z) (ns μ i) (by repeat (first | omega | exact rg_lt | exact ns_lt | exact ps_lt | exact gst_lt | exact ofS_lt | exact if_lt (by decide) (by decide) | apply fo_lt)) (by repeat (first | omega | exact rg_lt | exact ns_lt | exact ps_lt | exact gst_lt | exact ofS_lt | exact if_lt (by decide) (by decide) | apply fo_lt))) lX11_firstOf mX11_163 (Nat.lt_of_lt_of_le (by decide) (Nat.le_refl _)) (by decide) rfl rfl rfl dX11_covers_11 ?_
  refine g_cvi (rest := []) h (c_fails hW (fo (sB μ z) (ns μ i)) (by repeat (first | omega | exact rg_lt | exact ns_lt | exact ps_lt | exact gst_lt | exact ofS_lt | exact if_lt (by decide) (by decide) | apply fo_lt))) lX11_fails mX11_106 (Nat.lt_of_lt_of_le (by decide) (Nat.le_refl _)) (by decide) sc_12 rfl rfl rfl rfl dX11_covers_14 (fun σ_1 eσ_1 => ?_)
  obtain ⟨eσ_1_a, eσ_1_b⟩ := eσ_1
  have eσ_1_a : σ_1 14000 = (nI (fo (sB μ z) (ns μ i))) := eσ_1_a
  have eσ_1_b : ∀ a, (a ≠ 14000) → σ_1 a = σ a := eσ_1_b
  have ht14000_σ_1 : σ_1 14000 = (nI (fo (sB μ z) (ns μ i))) := eσ_1_a
  have hcFR_σ_1 : ∀ a, (a < 14900 ∧ a ≠ 14000) → σ_1 a = σ a := by intro a ha; exact Eq.trans (b := σ a) (eσ_1_b a (by first | omega | (simp only [vb] at *; omega))) (hcFR_σ a ha)
  have hvσ_1 : vw (vb 0) σ_1 = μ := by rw [vw_fr (σ := σ) (fun j _ _ => eσ_1_b _ (by first | omega | (simp only [vb] at *; omega)))]; first | exact hv | assumption
  refine g_ifB_eq h dX11_covers_17 (fun c17 => ?_) (fun c17 => ?_)
  ·
    have hS0 := nb0 c17
    obtain ⟨hs1, hs2⟩ := fo_0 hS0
    obtain ⟨ei, hi9⟩ := nB_N hI (ns_0 hs2)
    rw [ei]
    show G X w 4 22 [(0, .ref (w.1 12)), (1, .int (nI (toN i))), (2, .int z)] [] σ_1
    refine g_iload_n h dX11_covers_22 2 rfl ?_
    refine g_aload_n h dX11_covers_23 0 rfl ?_
    refine g_getr h dX11_covers_24 gX11_23 sc_12 rfl ?_
    refine g_getr h dX11_covers_27 gX11_181 (sM_0 (m := 0) (by decide)) rfl ?_
    refine g_getr h dX11_covers_30 gX11_190 (sM_4 (m := 0) (by decide)) rfl ?_
    refine g_iload_n h dX11_covers_33 1 rfl ?_
    refine g_iald h dX11_covers_34 (sM_8 (m := 0) (by decide)) (by omega) ?_
    refine g_top (y := μ (64 + (toN i))) (vw_pic (b := (vb 0)) (k := 64 + (toN i)) (by first | exact hvσ_1 | assumption) (by omega)) ?_
    refine g_iand h dX11_covers_35  ?_
    refine g_istore_n (L' := [(0, .ref (w.1 12)), (1, .int (nI (toN i))), (2, .int z), (3, .int (z &&& (μ (64 + (toN i)))))]) h dX11_covers_36 rfl (by decide) rfl ?_
    refine g_aload_n h dX11_covers_37 0 rfl ?_
    refine g_getr h dX11_covers_38 gX11_23 sc_12 rfl ?_
    refine g_iload_n h dX11_covers_41 1 rfl ?_
    refine g_cspi (rest := []) h (c_behind hW (toN i) 0 μ (by first | omega | decide | fail) (by first | exact hvσ_1 | assumption | fail) (by assumption) (by omega)) lX0_behind mX11_193 (Nat.lt_of_lt_of_le (by decide) (Nat.le_refl _)) (by decide) rfl rfl rfl dX11_covers_42 ?_
    refine g_aload_n h dX11_covers_45 0 rfl ?_
    refine g_getr h dX11_covers_46 gX11_23 sc_12 rfl ?_
    refine g_iload_n h dX11_covers_49 1 rfl ?_
    refine g_iload_n h dX11_covers_50 3 rfl ?_
    refine g_cspi (rest := [.int (bhd μ (toN i))]) h (c_knownOf hW (toN i) (z &&& (μ (64 + (toN i)))) 0 μ (by first | omega | decide | fail) (by first | exact hvσ_1 | assumption | fail) (by assumption) (by omega)) lX0_knownOf mX11_256 (Nat.lt_of_lt_of_le (by decide) (Nat.le_refl _)) (by decide) rfl rfl rfl dX11_covers_51 ?_
    refine g_iand h dX11_covers_54  ?_
    exact g_iret h hQ dX11_covers_55 (congrArg (fun z => some (Value.int z)) (show (an (fo (sB μ z) (ns μ i)) (bhd μ (toN i) &&& kno μ (toN i) (z &&& μ (64 + toN i)))) = ((bhd μ (toN i)) &&& (kno μ (toN i) (z &&& (μ (64 + (toN i)))))) by first | exact an_yes (by exact hS0) (by first | rfl | (simp [an, c17]; done) | (simp [an, c17]; rfl)) | exact an_no (k := (fo (sB μ z) (ns μ i))) (by first | rfl | (simp [fo, rg, ns, nB, ps, gst, ofS, offB, c17]; done) | (simp [fo, rg, ns, nB, ps, gst, ofS, offB, c17]; omega)) (by first | decide | omega | assumption | exact nb1 (by assumption)) | fail)) (by exact ⟨(by first | exact tk_eq (k := (fo (sB μ z) (ns μ i))) (by first | rfl | (simp [fo, rg, ns, nB, ps, gst, ofS, offB, c17]; done) | (simp [fo, rg, ns, nB, ps, gst, ofS, offB, c17]; omega)) ht14000_σ_1 | exact tk_eq (k := (fo (sB μ z) (ns μ i))) (by exact hS0) ht14000_σ_1 | fail), (by exact hcFR_σ_1)⟩)
  ·
    refine g_iconstv h dX11_covers_20 (v := (-1)) (by decide) ?_
    exact g_iret h hQ dX11_covers_21 (congrArg (fun z => some (Value.int z)) (show (an (fo (sB μ z) (ns μ i)) (bhd μ (toN i) &&& kno μ (toN i) (z &&& μ (64 + toN i)))) = (-1) by first | exact an_yes (by exact hS0) (by first | rfl | (simp [an, c17]; done) | (simp [an, c17]; rfl)) | exact an_no (k := (fo (sB μ z) (ns μ i))) (by first | rfl | (simp [fo, rg, ns, nB, ps, gst, ofS, offB, c17]; done) | (simp [fo, rg, ns, nB, ps, gst, ofS, offB, c17]; omega)) (by first | decide | omega | assumption | exact nb1 (by assumption)) | fail)) (by exact ⟨(by first | exact tk_eq (k := (fo (sB μ z) (ns μ i))) (by first | rfl | (simp [fo, rg, ns, nB, ps, gst, ofS, offB, c17]; done) | (simp [fo, rg, ns, nB, ps, gst, ofS, offB, c17]; omega)) ht14000_σ_1 | exact tk_eq (k := (fo (sB μ z) (ns μ i))) (by exact hS0) ht14000_σ_1 | fail), (by exact hcFR_σ_1)⟩)

set_option maxRecDepth 100000 in
set_option maxHeartbeats 4000000 in
theorem q_path {l : Launch} {w : Wd} (hW : Wi w) {σ : Mem} (i : Int32) (j : Int32) (z : Int32)  (μ : Nat → Int32) (hv : vw 0 σ = μ) (hI : MI μ) : MC l w qX12_path 6 [.ref (w.1 0), .int i, .int j, .int z] σ (some (.int (an (fo (fo (ng z) (gst μ i j)) (if (gnw μ (toN i) (toN j)).2.1 ≤ toN z then 7 else 0)) (nI ((gnw μ (toN i) (toN j)).2.2.1 (toN z)))))) (fun σ' => (σ' 4000 = (nI (fo (fo (ng z) (gst μ i j)) (if (gnw μ (toN i) (toN j)).2.1 ≤ toN z then 7 else 0)))) ∧ (∀ a, ((a < 4900 ∨ 6000 ≤ a) ∧ a ≠ 4000) → σ' a = σ a)) := by
  refine MC.of hW (by decide +kernel) (Nat.le_of_ble_eq_true rfl) (fun X h hQ hnm => ?_)
  have h : Fx X w cX12_path 5 RX12 6 := h
  have hQ : Qx X w (some .int) (some (.int (an (fo (fo (ng z) (gst μ i j)) (if (gnw μ (toN i) (toN j)).2.1 ≤ toN z then 7 else 0)) (nI ((gnw μ (toN i) (toN j)).2.2.1 (toN z)))))) (fun σ' => (σ' 4000 = (nI (fo (fo (ng z) (gst μ i j)) (if (gnw μ (toN i) (toN j)).2.1 ≤ toN z then 7 else 0)))) ∧ (∀ a, ((a < 4900 ∨ 6000 ≤ a) ∧ a ≠ 4000) → σ' a = σ a)) := hQ
  have hN8 := mi_8 hI
  have hgs := gst_lt (μ := μ) (a := i) (b := j)
  have hcFR_σ : ∀ a, ((a < 4900 ∨ 6000 ≤ a) ∧ a ≠ 4000) → σ a = σ a := fun _ _ => rfl
  show G X w 5 0 [(0, .ref (w.1 0)), (1, .int i), (2, .int j), (3, .int z)] [] σ
  refine g_iload_n h dX12_path_0 3 rfl ?_
  refine g_if_ge h dX12_path_1 (fun c1 => ?_) (fun c1 => ?_)
  ·
    refine g_aload_n h dX12_path_8 0 rfl ?_
    refine g_iload_n h dX12_path_9 1 rfl ?_
    refine g_iload_n h dX12_path_10 2 rfl ?_
    refine g_cvpi (rest := []) h (r_gst hW i j μ (by first | exact hv | assumption | fail) (by assumption)) lX12_wrongGoing mX12_315 (Nat.lt_of_lt_of_le (by decide) (Nat.le_refl _)) (by decide) sc_0 rfl rfl rfl rfl dX12_path_11 ?_
    refine g_istore (L' := [(0, .ref (w.1 0)), (1, .int i), (2, .int j), (3, .int z), (4, .int (nI (gst μ i j)))]) h dX12_path_14 rfl (by decide) rfl ?_
    refine g_iload h dX12_path_16 4 rfl ?_
    refine g_ifN_le h dX12_path_18 (by omega) (fun c18 => ?_) (fun c18 => ?_)
    ·
      have hp0 : gst μ i j = 0 := by omega
      have h0 := gst_0 hp0
      have ez := i32_N c1
      have hz9 := toN_lt z
      have hA : fo (ng z) (gst μ i j) = 0 := by rw [fo_r (ng_0 (Int32.not_lt.mpr c1))]; exact hp0
      obtain ⟨ei, hi9⟩ := nB_N hI h0.1
      obtain ⟨ej, hj9⟩ := nB_N hI h0.2.1
      have hne := eN_ne ei ej h0.2.2.1
      have hg1 := gnw_1 (μ := μ) (fr := toN i) (to := toN j)
      have hg9 := gnw_le (μ := μ) (fr := toN i) (to := toN j)
      have hgh := gnw_how (μ := μ) (fr := toN i) (to := toN j)
      rw [hp0]
      rw [ei, ej, ez]
      show G X w 5 28 [(0, .ref (w.1 0)), (1, .int (nI (toN i))), (2, .int (nI (toN j))), (3, .int (nI (toN z))), (4, .int (nI 0))] [] σ
      refine g_aload_n h dX12_path_28 0 rfl ?_
      refine g_iload_n h dX12_path_29 1 rfl ?_
      refine g_iload_n h dX12_path_30 2 rfl ?_
      refine g_cvi (rest := []) h (r_going hW (toN i) (toN j) μ (by first | exact hv | assumption | fail) (by assumption) (by omega) (by omega) (by omega)) lX12_going mX12_318 (Nat.lt_of_lt_of_le (by decide) (Nat.le_refl _)) (by decide) sc_0 rfl rfl rfl rfl dX12_path_31 (fun σ_1 eσ_1 => ?_)
      obtain ⟨eσ_1_a, eσ_1_b, eσ_1_c⟩ := eσ_1
      have eσ_1_a : σ_1 5011 = (nI ((gnw μ (toN i) (toN j)).2.1)) := eσ_1_a
      have eσ_1_b : GN 5170 σ_1 (gnw μ (toN i) (toN j)).2.1 (gnw μ (toN i) (toN j)).2.2.1 := eσ_1_b
      have eσ_1_c : ∀ a, ((a < 5150 ∨ 5180 ≤ a) ∧ a ≠ 5011) → σ_1 a = σ a := eσ_1_c
      have ht5011_σ_1 : σ_1 5011 = (nI ((gnw μ (toN i) (toN j)).2.1)) := eσ_1_a
      have hcFR_σ_1 : ∀ a, ((a < 4900 ∨ 6000 ≤ a) ∧ a ≠ 4000) → σ_1 a = σ a := by intro a ha; exact Eq.trans (b := σ a) (eσ_1_c a (by first | omega | (simp only [vb] at *; omega))) (hcFR_σ a ha)
      have hcGN_σ_1 : GN 5170 σ_1 (gnw μ (toN i) (toN j)).2.1 (gnw μ (toN i) (toN j)).2.2.1 := eσ_1_b
      have hvσ_1 : vw 0 σ_1 = μ := by rw [vw_fr (σ := σ) (fun j _ _ => eσ_1_c _ (by first | omega | (simp only [vb] at *; omega)))]; first | exact hv | assumption
      refine g_pop h dX12_path_34 rfl ?_
      refine g_iload_n h dX12_path_35 3 rfl ?_
      refine g_aload_n h dX12_path_36 0 rfl ?_
      refine g_geti h dX12_path_37 gX12_312 sc_0 rfl ?_
      refine g_top (y := (nI ((gnw μ (toN i) (toN j)).2.1))) (by first | exact ht5011_σ_1 | assumption) ?_
      refine g_icmpN_ge h dX12_path_40 (by omega) (by omega) (fun c40 => ?_) (fun c40 => ?_)
      ·
        refine g_aload_n h dX12_path_56 0 rfl ?_
        refine g_bipush h dX12_path_57 (by decide) ?_
        refine g_cvi (rest := []) h (r_refuse hW (nI 7) ) lX12_refuse mX12_272 (Nat.lt_of_lt_of_le (by decide) (Nat.le_refl _)) (by decide) sc_0 rfl rfl rfl rfl dX12_path_59 (fun σ_2 eσ_2 => ?_)
        have eσ_2_a : σ_2 = upd σ_1 4000 (nI 7) := eσ_2
        have ht5011_σ_2 : σ_2 5011 = (nI ((gnw μ (toN i) (toN j)).2.1)) := by rw [eσ_2_a, upd_ne (by first | omega | (simp only [vb] at *; omega))]; first | exact ht5011_σ_1 | assumption
        have ht4000_σ_2 : σ_2 4000 = (nI 7) := by rw [eσ_2_a]; exact upd_eq
        have hcFR_σ_2 : ∀ a, ((a < 4900 ∨ 6000 ≤ a) ∧ a ≠ 4000) → σ_2 a = σ a := by intro a ha; exact Eq.trans (b := σ_1 a) (by rw [eσ_2_a, upd_ne (by first | omega | (simp only [vb] at *; omega))]) (hcFR_σ_1 a ha)
        have hcGN_σ_2 : GN 5170 σ_2 (gnw μ (toN i) (toN j)).2.1 (gnw μ (toN i) (toN j)).2.2.1 := by rw [eσ_2_a]; exact GN.fr hcGN_σ_1 (fun a ha hb => upd_ne (by omega))
        have hvσ_2 : vw 0 σ_2 = μ := by rw [eσ_2_a, vw_out (by omega)]; first | exact hvσ_1 | assumption
        exact g_iret h hQ dX12_path_62 (congrArg (fun z => some (Value.int z)) (show (an (fo (fo (ng z) (gst μ i j)) (if (gnw μ (toN i) (toN j)).2.1 ≤ toN z then 7 else 0)) (nI ((gnw μ (toN i) (toN j)).2.2.1 (toN z)))) = (-1) by first | exact an_yes (by first | exact (fo_r hA).trans (if_pos (by omega)) | exact (fo_r hA).trans (if_neg (by omega)) | (rw [fo_l (show fo (ng z) (gst μ i j) ≠ 0 by rw [fo_r (ng_0 (Int32.not_lt.mpr c1))]; omega), fo_r (ng_0 (Int32.not_lt.mpr c1))]; done) | (rw [fo_l (show fo (ng z) (gst μ i j) ≠ 0 by rw [fo_l (by rw [ng_1 (Int32.not_le.mp c1)]; decide), ng_1 (Int32.not_le.mp c1)]; decide), fo_l (by rw [ng_1 (Int32.not_le.mp c1)]; decide), ng_1 (Int32.not_le.mp c1)]; done) | fail) (by rfl) | exact an_no (k := 7) (by first | exact (fo_r hA).trans (if_pos (by omega)) | exact (fo_r hA).trans (if_neg (by omega)) | (rw [fo_l (show fo (ng z) (gst μ i j) ≠ 0 by rw [fo_r (ng_0 (Int32.not_lt.mpr c1))]; omega), fo_r (ng_0 (Int32.not_lt.mpr c1))]; done) | (rw [fo_l (show fo (ng z) (gst μ i j) ≠ 0 by rw [fo_l (by rw [ng_1 (Int32.not_le.mp c1)]; decide), ng_1 (Int32.not_le.mp c1)]; decide), fo_l (by rw [ng_1 (Int32.not_le.mp c1)]; decide), ng_1 (Int32.not_le.mp c1)]; done) | fail) (by first | decide | omega | assumption | exact nb1 (by assumption)) | fail)) (by exact ⟨(by first | exact tk_eq (k := 7) (by first | exact (fo_r hA).trans (if_pos (by omega)) | exact (fo_r hA).trans (if_neg (by omega)) | (rw [fo_l (show fo (ng z) (gst μ i j) ≠ 0 by rw [fo_r (ng_0 (Int32.not_lt.mpr c1))]; omega), fo_r (ng_0 (Int32.not_lt.mpr c1))]; done) | (rw [fo_l (show fo (ng z) (gst μ i j) ≠ 0 by rw [fo_l (by rw [ng_1 (Int32.not_le.mp c1)]; decide), ng_1 (Int32.not_le.mp c1)]; decide), fo_l (by rw [ng_1 (Int32.not_le.mp c1)]; decide), ng_1 (Int32.not_le.mp c1)]; done) | fail) ht4000_σ_2 | exact tk_eq (k := 7) (by first | exact (fo_r hA).trans (if_pos (by omega)) | exact (fo_r hA).trans (if_neg (by omega)) | (rw [fo_l (show fo (ng z) (gst μ i j) ≠ 0 by rw [fo_r (ng_0 (Int32.not_lt.mpr c1))]; omega), fo_r (ng_0 (Int32.not_lt.mpr c1))]; done) | (rw [fo_l (show fo (ng z) (gst μ i j) ≠ 0 by rw [fo_l (by rw [ng_1 (Int32.not_le.mp c1)]; decide), ng_1 (Int32.not_le.mp c1)]; decide), fo_l (by rw [ng_1 (Int32.not_le.mp c1)]; decide), ng_1 (Int32.not_le.mp c1)]; done) | fail) ht4000_σ_2 | fail), (by exact hcFR_σ_2)⟩)
      ·
        refine g_aload_n h dX12_path_43 0 rfl ?_
        refine g_aload_n h dX12_path_44 0 rfl ?_
        refine g_getr h dX12_path_45 gX12_48 sc_0 rfl ?_
        refine g_iload_n h dX12_path_48 3 rfl ?_
        refine g_iald h dX12_path_49 sc_11 (by omega) ?_
        refine g_top (y := (nI ((gnw μ (toN i) (toN j)).2.2.1 (toN z)))) (hcGN_σ_1 (toN z) (by omega)) ?_
        refine g_cvi (rest := []) h (r_gives hW (nI ((gnw μ (toN i) (toN j)).2.2.1 (toN z))) ) lX12_gives mX12_281 (Nat.lt_of_lt_of_le (by decide) (Nat.le_refl _)) (by decide) sc_0 rfl rfl rfl rfl dX12_path_50 (fun σ_3 eσ_3 => ?_)
        have eσ_3_a : σ_3 = upd σ_1 4000 (nI 0) := eσ_3
        have ht5011_σ_3 : σ_3 5011 = (nI ((gnw μ (toN i) (toN j)).2.1)) := by rw [eσ_3_a, upd_ne (by first | omega | (simp only [vb] at *; omega))]; first | exact ht5011_σ_1 | assumption
        have ht4000_σ_3 : σ_3 4000 = (nI 0) := by rw [eσ_3_a]; exact upd_eq
        have hcFR_σ_3 : ∀ a, ((a < 4900 ∨ 6000 ≤ a) ∧ a ≠ 4000) → σ_3 a = σ a := by intro a ha; exact Eq.trans (b := σ_1 a) (by rw [eσ_3_a, upd_ne (by first | omega | (simp only [vb] at *; omega))]) (hcFR_σ_1 a ha)
        have hcGN_σ_3 : GN 5170 σ_3 (gnw μ (toN i) (toN j)).2.1 (gnw μ (toN i) (toN j)).2.2.1 := by rw [eσ_3_a]; exact GN.fr hcGN_σ_1 (fun a ha hb => upd_ne (by omega))
        have hvσ_3 : vw 0 σ_3 = μ := by rw [eσ_3_a, vw_out (by omega)]; first | exact hvσ_1 | assumption
        refine g_goto h dX12_path_53 ?_
        exact g_iret h hQ dX12_path_62 (congrArg (fun z => some (Value.int z)) (show (an (fo (fo (ng z) (gst μ i j)) (if (gnw μ (toN i) (toN j)).2.1 ≤ toN z then 7 else 0)) (nI ((gnw μ (toN i) (toN j)).2.2.1 (toN z)))) = (nI ((gnw μ (toN i) (toN j)).2.2.1 (toN z))) by first | exact an_yes (by first | exact (fo_r hA).trans (if_pos (by omega)) | exact (fo_r hA).trans (if_neg (by omega)) | (rw [fo_l (show fo (ng z) (gst μ i j) ≠ 0 by rw [fo_r (ng_0 (Int32.not_lt.mpr c1))]; omega), fo_r (ng_0 (Int32.not_lt.mpr c1))]; done) | (rw [fo_l (show fo (ng z) (gst μ i j) ≠ 0 by rw [fo_l (by rw [ng_1 (Int32.not_le.mp c1)]; decide), ng_1 (Int32.not_le.mp c1)]; decide), fo_l (by rw [ng_1 (Int32.not_le.mp c1)]; decide), ng_1 (Int32.not_le.mp c1)]; done) | fail) (by rfl) | exact an_no (k := 0) (by first | exact (fo_r hA).trans (if_pos (by omega)) | exact (fo_r hA).trans (if_neg (by omega)) | (rw [fo_l (show fo (ng z) (gst μ i j) ≠ 0 by rw [fo_r (ng_0 (Int32.not_lt.mpr c1))]; omega), fo_r (ng_0 (Int32.not_lt.mpr c1))]; done) | (rw [fo_l (show fo (ng z) (gst μ i j) ≠ 0 by rw [fo_l (by rw [ng_1 (Int32.not_le.mp c1)]; decide), ng_1 (Int32.not_le.mp c1)]; decide), fo_l (by rw [ng_1 (Int32.not_le.mp c1)]; decide), ng_1 (Int32.not_le.mp c1)]; done) | fail) (by first | decide | omega | assumption | exact nb1 (by assumption)) | fail)) (by exact ⟨(by first | exact tk_eq (k := 0) (by first | exact (fo_r hA).trans (if_pos (by omega)) | exact (fo_r hA).trans (if_neg (by omega)) | (rw [fo_l (show fo (ng z) (gst μ i j) ≠ 0 by rw [fo_r (ng_0 (Int32.not_lt.mpr c1))]; omega), fo_r (ng_0 (Int32.not_lt.mpr c1))]; done) | (rw [fo_l (show fo (ng z) (gst μ i j) ≠ 0 by rw [fo_l (by rw [ng_1 (Int32.not_le.mp c1)]; decide), ng_1 (Int32.not_le.mp c1)]; decide), fo_l (by rw [ng_1 (Int32.not_le.mp c1)]; decide), ng_1 (Int32.not_le.mp c1)]; done) | fail) ht4000_σ_3 | exact tk_eq (k := 0) (by first | exact (fo_r hA).trans (if_pos (by omega)) | exact (fo_r hA).trans (if_neg (by omega)) | (rw [fo_l (show fo (ng z) (gst μ i j) ≠ 0 by rw [fo_r (ng_0 (Int32.not_lt.mpr c1))]; omega), fo_r (ng_0 (Int32.not_lt.mpr c1))]; done) | (rw [fo_l (show fo (ng z) (gst μ i j) ≠ 0 by rw [fo_l (by rw [ng_1 (Int32.not_le.mp c1)]; decide), ng_1 (Int32.not_le.mp c1)]; decide), fo_l (by rw [ng_1 (Int32.not_le.mp c1)]; decide), ng_1 (Int32.not_le.mp c1)]; done) | fail) ht4000_σ_3 | fail), (by exact hcFR_σ_3)⟩)
    ·
      refine g_aload_n h dX12_path_21 0 rfl ?_
      refine g_iload h dX12_path_22 4 rfl ?_
      refine g_cvi (rest := []) h (r_refuse hW (nI (gst μ i j)) ) lX12_refuse mX12_272 (Nat.lt_of_lt_of_le (by decide) (Nat.le_refl _)) (by decide) sc_0 rfl rfl rfl rfl dX12_path_24 (fun σ_4 eσ_4 => ?_)
      have eσ_4_a : σ_4 = upd σ 4000 (nI (gst μ i j)) := eσ_4
      have ht4000_σ_4 : σ_4 4000 = (nI (gst μ i j)) := by rw [eσ_4_a]; exact upd_eq
      have hcFR_σ_4 : ∀ a, ((a < 4900 ∨ 6000 ≤ a) ∧ a ≠ 4000) → σ_4 a = σ a := by intro a ha; exact Eq.trans (b := σ a) (by rw [eσ_4_a, upd_ne (by first | omega | (simp only [vb] at *; omega))]) (hcFR_σ a ha)
      have hvσ_4 : vw 0 σ_4 = μ := by rw [eσ_4_a, vw_out (by omega)]; first | exact hv | assumption
      exact g_iret h hQ dX12_path_27 (congrArg (fun z => some (Value.int z)) (show (an (fo (fo (ng z) (gst μ i j)) (if (gnw μ (toN i) (toN j)).2.1 ≤ toN z then 7 else 0)) (nI ((gnw μ (toN i) (toN j)).2.2.1 (toN z)))) = (-1) by first | exact an_yes (by first | exact (fo_r hA).trans (if_pos (by omega)) | exact (fo_r hA).trans (if_neg (by omega)) | (rw [fo_l (show fo (ng z) (gst μ i j) ≠ 0 by rw [fo_r (ng_0 (Int32.not_lt.mpr c1))]; omega), fo_r (ng_0 (Int32.not_lt.mpr c1))]; done) | (rw [fo_l (show fo (ng z) (gst μ i j) ≠ 0 by rw [fo_l (by rw [ng_1 (Int32.not_le.mp c1)]; decide), ng_1 (Int32.not_le.mp c1)]; decide), fo_l (by rw [ng_1 (Int32.not_le.mp c1)]; decide), ng_1 (Int32.not_le.mp c1)]; done) | fail) (by rfl) | exact an_no (k := (gst μ i j)) (by first | exact (fo_r hA).trans (if_pos (by omega)) | exact (fo_r hA).trans (if_neg (by omega)) | (rw [fo_l (show fo (ng z) (gst μ i j) ≠ 0 by rw [fo_r (ng_0 (Int32.not_lt.mpr c1))]; omega), fo_r (ng_0 (Int32.not_lt.mpr c1))]; done) | (rw [fo_l (show fo (ng z) (gst μ i j) ≠ 0 by rw [fo_l (by rw [ng_1 (Int32.not_le.mp c1)]; decide), ng_1 (Int32.not_le.mp c1)]; decide), fo_l (by rw [ng_1 (Int32.not_le.mp c1)]; decide), ng_1 (Int32.not_le.mp c1)]; done) | fail) (by first | decide | omega | assumption | exact nb1 (by assumption)) | fail)) (by exact ⟨(by first | exact tk_eq (k := (gst μ i j)) (by first | exact (fo_r hA).trans (if_pos (by omega)) | exact (fo_r hA).trans (if_neg (by omega)) | (rw [fo_l (show fo (ng z) (gst μ i j) ≠ 0 by rw [fo_r (ng_0 (Int32.not_lt.mpr c1))]; omega), fo_r (ng_0 (Int32.not_lt.mpr c1))]; done) | (rw [fo_l (show fo (ng z) (gst μ i j) ≠ 0 by rw [fo_l (by rw [ng_1 (Int32.not_le.mp c1)]; decide), ng_1 (Int32.not_le.mp c1)]; decide), fo_l (by rw [ng_1 (Int32.not_le.mp c1)]; decide), ng_1 (Int32.not_le.mp c1)]; done) | fail) ht4000_σ_4 | exact tk_eq (k := (gst μ i j)) (by first | exact (fo_r hA).trans (if_pos (by omega)) | exact (fo_r hA).trans (if_neg (by omega)) | (rw [fo_l (show fo (ng z) (gst μ i j) ≠ 0 by rw [fo_r (ng_0 (Int32.not_lt.mpr c1))]; omega), fo_r (ng_0 (Int32.not_lt.mpr c1))]; done) | (rw [fo_l (show fo (ng z) (gst μ i j) ≠ 0 by rw [fo_l (by rw [ng_1 (Int32.not_le.mp c1)]; decide), ng_1 (Int32.not_le.mp c1)]; decide), fo_l (by rw [ng_1 (Int32.not_le.mp c1)]; decide), ng_1 (Int32.not_le.mp c1)]; done) | fail) ht4000_σ_4 | fail), (by exact hcFR_σ_4)⟩)
  ·
    refine g_iconst h dX12_path_4 (by decide) ?_
    refine g_goto h dX12_path_5 ?_
    refine g_istore (L' := [(0, .ref (w.1 0)), (1, .int i), (2, .int j), (3, .int z), (4, .int (nI 1))]) h dX12_path_14 rfl (by decide) rfl ?_
    refine g_iload h dX12_path_16 4 rfl ?_
    refine g_ifN_le h dX12_path_18 (by decide) (fun c18 => absurd c18 (by decide)) (fun c18 => ?_)
    refine g_aload_n h dX12_path_21 0 rfl ?_
    refine g_iload h dX12_path_22 4 rfl ?_
    refine g_cvi (rest := []) h (r_refuse hW (nI 1) ) lX12_refuse mX12_272 (Nat.lt_of_lt_of_le (by decide) (Nat.le_refl _)) (by decide) sc_0 rfl rfl rfl rfl dX12_path_24 (fun σ_5 eσ_5 => ?_)
    have eσ_5_a : σ_5 = upd σ 4000 (nI 1) := eσ_5
    have ht4000_σ_5 : σ_5 4000 = (nI 1) := by rw [eσ_5_a]; exact upd_eq
    have hcFR_σ_5 : ∀ a, ((a < 4900 ∨ 6000 ≤ a) ∧ a ≠ 4000) → σ_5 a = σ a := by intro a ha; exact Eq.trans (b := σ a) (by rw [eσ_5_a, upd_ne (by first | omega | (simp only [vb] at *; omega))]) (hcFR_σ a ha)
    have hvσ_5 : vw 0 σ_5 = μ := by rw [eσ_5_a, vw_out (by omega)]; first | exact hv | assumption
    exact g_iret h hQ dX12_path_27 (congrArg (fun z => some (Value.int z)) (show (an (fo (fo (ng z) (gst μ i j)) (if (gnw μ (toN i) (toN j)).2.1 ≤ toN z then 7 else 0)) (nI ((gnw μ (toN i) (toN j)).2.2.1 (toN z)))) = (-1) by first | exact an_yes (by first | exact (fo_r hA).trans (if_pos (by omega)) | exact (fo_r hA).trans (if_neg (by omega)) | (rw [fo_l (show fo (ng z) (gst μ i j) ≠ 0 by rw [fo_r (ng_0 (Int32.not_lt.mpr c1))]; omega), fo_r (ng_0 (Int32.not_lt.mpr c1))]; done) | (rw [fo_l (show fo (ng z) (gst μ i j) ≠ 0 by rw [fo_l (by rw [ng_1 (Int32.not_le.mp c1)]; decide), ng_1 (Int32.not_le.mp c1)]; decide), fo_l (by rw [ng_1 (Int32.not_le.mp c1)]; decide), ng_1 (Int32.not_le.mp c1)]; done) | fail) (by rfl) | exact an_no (k := 1) (by first | exact (fo_r hA).trans (if_pos (by omega)) | exact (fo_r hA).trans (if_neg (by omega)) | (rw [fo_l (show fo (ng z) (gst μ i j) ≠ 0 by rw [fo_r (ng_0 (Int32.not_lt.mpr c1))]; omega), fo_r (ng_0 (Int32.not_lt.mpr c1))]; done) | (rw [fo_l (show fo (ng z) (gst μ i j) ≠ 0 by rw [fo_l (by rw [ng_1 (Int32.not_le.mp c1)]; decide), ng_1 (Int32.not_le.mp c1)]; decide), fo_l (by rw [ng_1 (Int32.not_le.mp c1)]; decide), ng_1 (Int32.not_le.mp c1)]; done) | fail) (by first | decide | omega | assumption | exact nb1 (by assumption)) | fail)) (by exact ⟨(by first | exact tk_eq (k := 1) (by first | exact (fo_r hA).trans (if_pos (by omega)) | exact (fo_r hA).trans (if_neg (by omega)) | (rw [fo_l (show fo (ng z) (gst μ i j) ≠ 0 by rw [fo_r (ng_0 (Int32.not_lt.mpr c1))]; omega), fo_r (ng_0 (Int32.not_lt.mpr c1))]; done) | (rw [fo_l (show fo (ng z) (gst μ i j) ≠ 0 by rw [fo_l (by rw [ng_1 (Int32.not_le.mp c1)]; decide), ng_1 (Int32.not_le.mp c1)]; decide), fo_l (by rw [ng_1 (Int32.not_le.mp c1)]; decide), ng_1 (Int32.not_le.mp c1)]; done) | fail) ht4000_σ_5 | exact tk_eq (k := 1) (by first | exact (fo_r hA).trans (if_pos (by omega)) | exact (fo_r hA).trans (if_neg (by omega)) | (rw [fo_l (show fo (ng z) (gst μ i j) ≠ 0 by rw [fo_r (ng_0 (Int32.not_lt.mpr c1))]; omega), fo_r (ng_0 (Int32.not_lt.mpr c1))]; done) | (rw [fo_l (show fo (ng z) (gst μ i j) ≠ 0 by rw [fo_l (by rw [ng_1 (Int32.not_le.mp c1)]; decide), ng_1 (Int32.not_le.mp c1)]; decide), fo_l (by rw [ng_1 (Int32.not_le.mp c1)]; decide), ng_1 (Int32.not_le.mp c1)]; done) | fail) ht4000_σ_5 | fail), (by exact hcFR_σ_5)⟩)

set_option maxRecDepth 100000 in
set_option maxHeartbeats 4000000 in
theorem p_path {l : Launch} {w : Wd} (hW : Wi w) {σ : Mem} (i : Int32) (j : Int32) (z : Int32)  (μ : Nat → Int32) (hv : vw (vb 0) σ = μ) (hI : MI μ) : MC l w qX11_path 4 [.ref (w.1 12), .int i, .int j, .int z] σ (some (.int (an (fo (fo (ng z) (gst μ i j)) (if (gnw μ (toN i) (toN j)).2.1 ≤ toN z then 7 else 0)) (nI ((gnw μ (toN i) (toN j)).2.2.1 (toN z)))))) (fun σ' => (σ' 14000 = (nI (fo (fo (ng z) (gst μ i j)) (if (gnw μ (toN i) (toN j)).2.1 ≤ toN z then 7 else 0)))) ∧ (∀ a, (a < 14900 ∧ a ≠ 14000) → σ' a = σ a)) := by
  refine MC.of hW (by decide +kernel) (Nat.le_of_ble_eq_true rfl) (fun X h hQ hnm => ?_)
  have h : Fx X w cX11_path 4 RX11 4 := h
  have hQ : Qx X w (some .int) (some (.int (an (fo (fo (ng z) (gst μ i j)) (if (gnw μ (toN i) (toN j)).2.1 ≤ toN z then 7 else 0)) (nI ((gnw μ (toN i) (toN j)).2.2.1 (toN z)))))) (fun σ' => (σ' 14000 = (nI (fo (fo (ng z) (gst μ i j)) (if (gnw μ (toN i) (toN j)).2.1 ≤ toN z then 7 else 0)))) ∧ (∀ a, (a < 14900 ∧ a ≠ 14000) → σ' a = σ a)) := hQ
  have hN8 := mi_8 hI
  have hcFR_σ : ∀ a, (a < 14900 ∧ a ≠ 14000) → σ a = σ a := fun _ _ => rfl
  show G X w 4 0 [(0, .ref (w.1 12)), (1, .int i), (2, .int j), (3, .int z)] [] σ
  have J10 : ∀ (nz : Nat), (nz = ng z) → G X w 4 10 [(0, .ref (w.1 12)), (1, .int i), (2, .int j), (3, .int z)] [.int (nI nz), .ref (w.1 12)] σ := by
    intro nz hnz
    have hnl : nz < 100 := by rw [hnz]; exact ng_lt
    refine g_aload_n h dX11_path_10 0 rfl ?_
    refine g_iload_n h dX11_path_11 1 rfl ?_
    refine g_iload_n h dX11_path_12 2 rfl ?_
    refine g_cvpi (rest := [.int (nI nz), .ref (w.1 12)]) h (c_gst hW i j μ (by first | exact hv | assumption | fail) (by assumption)) lX11_goingStatus mX11_283 (Nat.lt_of_lt_of_le (by decide) (Nat.le_refl _)) (by decide) sc_12 rfl rfl rfl rfl dX11_path_13 ?_
    refine g_cspi (rest := [.ref (w.1 12)]) h (c_fo hW nz (gst μ i j) (by repeat (first | omega | exact rg_lt | exact ns_lt | exact ps_lt | exact gst_lt | exact ofS_lt | exact if_lt (by decide) (by decide) | apply fo_lt)) (by repeat (first | omega | exact rg_lt | exact ns_lt | exact ps_lt | exact gst_lt | exact ofS_lt | exact if_lt (by decide) (by decide) | apply fo_lt))) lX11_firstOf mX11_163 (Nat.lt_of_lt_of_le (by decide) (Nat.le_refl _)) (by decide) rfl rfl rfl dX11_path_16 ?_
    refine g_cvi (rest := []) h (c_fails hW (fo nz (gst μ i j)) (by repeat (first | omega | exact rg_lt | exact ns_lt | exact ps_lt | exact gst_lt | exact ofS_lt | exact if_lt (by decide) (by decide) | apply fo_lt))) lX11_fails mX11_106 (Nat.lt_of_lt_of_le (by decide) (Nat.le_refl _)) (by decide) sc_12 rfl rfl rfl rfl dX11_path_19 (fun σ_1 eσ_1 => ?_)
    obtain ⟨eσ_1_a, eσ_1_b⟩ := eσ_1
    have eσ_1_a : σ_1 14000 = (nI (fo nz (gst μ i j))) := eσ_1_a
    have eσ_1_b : ∀ a, (a ≠ 14000) → σ_1 a = σ a := eσ_1_b
    have ht14000_σ_1 : σ_1 14000 = (nI (fo nz (gst μ i j))) := eσ_1_a
    have hcFR_σ_1 : ∀ a, (a < 14900 ∧ a ≠ 14000) → σ_1 a = σ a := by intro a ha; exact Eq.trans (b := σ a) (eσ_1_b a (by first | omega | (simp only [vb] at *; omega))) (hcFR_σ a ha)
    have hvσ_1 : vw (vb 0) σ_1 = μ := by rw [vw_fr (σ := σ) (fun j _ _ => eσ_1_b _ (by first | omega | (simp only [vb] at *; omega)))]; first | exact hv | assumption
    refine g_ifB_eq h dX11_path_22 (fun c22 => ?_) (fun c22 => ?_)
    ·
      have hA := nb0 c22
      rw [hnz] at hA
      obtain ⟨hs1, hs2⟩ := fo_0 hA
      have h0 := gst_0 hs2
      have hz0 : ¬ z < 0 := fun q9 => by rw [ng_1 q9] at hs1; cases hs1
      have ez := i32_N (Int32.not_lt.mp hz0)
      have hz9 := toN_lt z
      obtain ⟨ei, hi9⟩ := nB_N hI h0.1
      obtain ⟨ej, hj9⟩ := nB_N hI h0.2.1
      have hne := eN_ne ei ej h0.2.2.1
      have hg1 := gnw_1 (μ := μ) (fr := toN i) (to := toN j)
      have hg9 := gnw_le (μ := μ) (fr := toN i) (to := toN j)
      have hgh := gnw_how (μ := μ) (fr := toN i) (to := toN j)
      rw [ei, ej, ez]
      show G X w 4 27 [(0, .ref (w.1 12)), (1, .int (nI (toN i))), (2, .int (nI (toN j))), (3, .int (nI (toN z)))] [] σ_1
      refine g_aload_n h dX11_path_27 0 rfl ?_
      refine g_getr h dX11_path_28 gX11_51 sc_12 rfl ?_
      refine g_aload_n h dX11_path_31 0 rfl ?_
      refine g_getr h dX11_path_32 gX11_23 sc_12 rfl ?_
      refine g_cvv (rest := []) h (c_findAll hW 0 μ (by first | omega | decide | fail) (by first | exact hvσ_1 | assumption | fail) (by assumption)) lX8_findAll mX11_286 (Nat.lt_of_lt_of_le (by decide) (Nat.le_refl _)) (by decide) sc_20 rfl rfl rfl rfl dX11_path_35 (fun σ_2 eσ_2 => ?_)
      obtain ⟨eσ_2_a, eσ_2_b⟩ := eσ_2
      have eσ_2_a : CA σ_2 μ := eσ_2_a
      have eσ_2_b : ∀ a, (a < 15200 ∨ 15328 ≤ a) → σ_2 a = σ_1 a := eσ_2_b
      have ht14000_σ_2 : σ_2 14000 = (nI (fo nz (gst μ i j))) := by rw [eσ_2_b _ (by first | omega | (simp only [vb] at *; omega))]; first | exact ht14000_σ_1 | assumption
      have hcFR_σ_2 : ∀ a, (a < 14900 ∧ a ≠ 14000) → σ_2 a = σ a := by intro a ha; exact Eq.trans (b := σ_1 a) (eσ_2_b a (by first | omega | (simp only [vb] at *; omega))) (hcFR_σ_1 a ha)
      have hcCA_σ_2 : CA σ_2 μ := eσ_2_a
      have hvσ_2 : vw (vb 0) σ_2 = μ := by rw [vw_fr (σ := σ_1) (fun j _ _ => eσ_2_b _ (by first | omega | (simp only [vb] at *; omega)))]; first | exact hvσ_1 | assumption
      refine g_aload_n h dX11_path_38 0 rfl ?_
      refine g_getr h dX11_path_39 gX11_58 sc_12 rfl ?_
      refine g_aload_n h dX11_path_42 0 rfl ?_
      refine g_getr h dX11_path_43 gX11_23 sc_12 rfl ?_
      refine g_aload_n h dX11_path_46 0 rfl ?_
      refine g_getr h dX11_path_47 gX11_51 sc_12 rfl ?_
      refine g_iload_n h dX11_path_50 1 rfl ?_
      refine g_iload_n h dX11_path_51 2 rfl ?_
      refine g_cvv (rest := []) h (c_follow hW (toN i) (toN j) 0 μ (by first | omega | decide | fail) (by first | exact hvσ_2 | assumption | fail) (by assumption) (by omega) (by omega) (by first | exact hcCA_σ_2 | assumption | fail)) lX2_follow mX11_289 (Nat.lt_of_lt_of_le (by decide) (Nat.le_refl _)) (by decide) sc_23 rfl rfl rfl rfl dX11_path_52 (fun σ_3 eσ_3 => ?_)
      obtain ⟨eσ_3_a, eσ_3_b, eσ_3_c, eσ_3_d, eσ_3_e, eσ_3_f⟩ := eσ_3
      have eσ_3_a : σ_3 15020 = (nI ((gnw μ (toN i) (toN j)).2.1 - 1)) := eσ_3_a
      have eσ_3_b : σ_3 15021 = (nI ((gnw μ (toN i) (toN j)).1)) := eσ_3_b
      have eσ_3_c : σ_3 15022 = ((gnw μ (toN i) (toN j)).2.2.2) := eσ_3_c
      have eσ_3_d : CA σ_3 μ := eσ_3_d
      have eσ_3_e : GN 15170 σ_3 (gnw μ (toN i) (toN j)).2.1 (gnw μ (toN i) (toN j)).2.2.1 := eσ_3_e
      have eσ_3_f : ∀ a, ((a < 15020 ∨ 15023 ≤ a) ∧ (a < 15170 ∨ 15179 ≤ a)) → σ_3 a = σ_2 a := eσ_3_f
      have ht14000_σ_3 : σ_3 14000 = (nI (fo nz (gst μ i j))) := by rw [eσ_3_f _ (by first | omega | (simp only [vb] at *; omega))]; first | exact ht14000_σ_2 | assumption
      have ht15020_σ_3 : σ_3 15020 = (nI ((gnw μ (toN i) (toN j)).2.1 - 1)) := eσ_3_a
      have ht15021_σ_3 : σ_3 15021 = (nI ((gnw μ (toN i) (toN j)).1)) := eσ_3_b
      have ht15022_σ_3 : σ_3 15022 = ((gnw μ (toN i) (toN j)).2.2.2) := eσ_3_c
      have hcFR_σ_3 : ∀ a, (a < 14900 ∧ a ≠ 14000) → σ_3 a = σ a := by intro a ha; exact Eq.trans (b := σ_2 a) (eσ_3_f a (by first | omega | (simp only [vb] at *; omega))) (hcFR_σ_2 a ha)
      have hcCA_σ_3 : CA σ_3 μ := eσ_3_d
      have hcGN_σ_3 : GN 15170 σ_3 (gnw μ (toN i) (toN j)).2.1 (gnw μ (toN i) (toN j)).2.2.1 := eσ_3_e
      have hvσ_3 : vw (vb 0) σ_3 = μ := by rw [vw_fr (σ := σ_2) (fun j _ _ => eσ_3_f _ (by first | omega | (simp only [vb] at *; omega)))]; first | exact hvσ_2 | assumption
      refine g_aload_n h dX11_path_55 0 rfl ?_
      refine g_iload_n h dX11_path_56 3 rfl ?_
      refine g_aload_n h dX11_path_57 0 rfl ?_
      refine g_getr h dX11_path_58 gX11_58 sc_12 rfl ?_
      refine g_geti h dX11_path_61 gX11_296 sc_23 rfl ?_
      refine g_top (y := (nI ((gnw μ (toN i) (toN j)).2.1 - 1))) (by first | exact ht15020_σ_3 | assumption) ?_
      refine g_icmpN_gt h dX11_path_64 (by omega) (by omega) (fun c64 => ?_) (fun c64 => ?_)
      ·
        refine g_bipush h dX11_path_73 (by decide) ?_
        refine g_goto h dX11_path_75 ?_
        refine g_cvi (rest := []) h (c_fails hW 7 (by repeat (first | omega | exact rg_lt | exact ns_lt | exact ps_lt | exact gst_lt | exact ofS_lt | exact if_lt (by decide) (by decide) | apply fo_lt))) lX11_fails mX11_106 (Nat.lt_of_lt_of_le (by decide) (Nat.le_refl _)) (by decide) sc_12 rfl rfl rfl rfl dX11_path_79 (fun σ_4 eσ_4 => ?_)
        obtain ⟨eσ_4_a, eσ_4_b⟩ := eσ_4
        have eσ_4_a : σ_4 14000 = (nI 7) := eσ_4_a
        have eσ_4_b : ∀ a, (a ≠ 14000) → σ_4 a = σ_3 a := eσ_4_b
        have ht15020_σ_4 : σ_4 15020 = (nI ((gnw μ (toN i) (toN j)).2.1 - 1)) := by rw [eσ_4_b _ (by first | omega | (simp only [vb] at *; omega))]; first | exact ht15020_σ_3 | assumption
        have ht15021_σ_4 : σ_4 15021 = (nI ((gnw μ (toN i) (toN j)).1)) := by rw [eσ_4_b _ (by first | omega | (simp only [vb] at *; omega))]; first | exact ht15021_σ_3 | assumption
        have ht15022_σ_4 : σ_4 15022 = ((gnw μ (toN i) (toN j)).2.2.2) := by rw [eσ_4_b _ (by first | omega | (simp only [vb] at *; omega))]; first | exact ht15022_σ_3 | assumption
        have ht14000_σ_4 : σ_4 14000 = (nI 7) := eσ_4_a
        have hcFR_σ_4 : ∀ a, (a < 14900 ∧ a ≠ 14000) → σ_4 a = σ a := by intro a ha; exact Eq.trans (b := σ_3 a) (eσ_4_b a (by first | omega | (simp only [vb] at *; omega))) (hcFR_σ_3 a ha)
        have hcCA_σ_4 : CA σ_4 μ := by exact CA.fr hcCA_σ_3 hI (fun a ha hb => eσ_4_b a (by first | omega | (simp only [vb] at *; omega)))
        have hcGN_σ_4 : GN 15170 σ_4 (gnw μ (toN i) (toN j)).2.1 (gnw μ (toN i) (toN j)).2.2.1 := by exact GN.fr hcGN_σ_3 (fun a ha hb => eσ_4_b a (by omega))
        have hvσ_4 : vw (vb 0) σ_4 = μ := by rw [vw_fr (σ := σ_3) (fun j _ _ => eσ_4_b _ (by first | omega | (simp only [vb] at *; omega)))]; first | exact hvσ_3 | assumption
        refine g_top (y := nI 1) rfl ?_
        refine g_ifN_eq h dX11_path_82 (by decide) (fun c82 => absurd c82 (by decide)) (fun c82 => ?_)
        refine g_iconstv h dX11_path_85 (v := (-1)) (by decide) ?_
        refine g_goto h dX11_path_86 ?_
        exact g_iret h hQ dX11_path_98 (congrArg (fun z => some (Value.int z)) (show (an (fo (fo (ng z) (gst μ i j)) (if (gnw μ (toN i) (toN j)).2.1 ≤ toN z then 7 else 0)) (nI ((gnw μ (toN i) (toN j)).2.2.1 (toN z)))) = (-1) by first | exact an_yes (by first | exact (fo_r hA).trans (if_pos (by omega)) | exact (fo_r hA).trans (if_neg (by omega)) | (rw [← hnz]; exact fo_l (nb1 c22)) | fail) (by rfl) | exact an_no (k := 7) (by first | exact (fo_r hA).trans (if_pos (by omega)) | exact (fo_r hA).trans (if_neg (by omega)) | (rw [← hnz]; exact fo_l (nb1 c22)) | fail) (by first | decide | omega | assumption | exact nb1 (by assumption)) | fail)) (by exact ⟨(by first | exact tk_eq (k := 7) (by first | exact (fo_r hA).trans (if_pos (by omega)) | exact (fo_r hA).trans (if_neg (by omega)) | (rw [← hnz]; exact fo_l (nb1 c22)) | fail) ht14000_σ_4 | exact tk_eq (k := 7) (by first | exact (fo_r hA).trans (if_pos (by omega)) | exact (fo_r hA).trans (if_neg (by omega)) | (rw [← hnz]; exact fo_l (nb1 c22)) | fail) ht14000_σ_4 | fail), (by exact hcFR_σ_4)⟩)
      ·
        refine g_iload_n h dX11_path_67 3 rfl ?_
        refine g_bipush h dX11_path_68 (by decide) ?_
        refine g_icmpN_le h dX11_path_70 (by omega) (by omega) (fun c70 => ?_) (fun c70 => ?_)
        ·
          refine g_iconst h dX11_path_78 (by decide) ?_
          refine g_cvi (rest := []) h (c_fails hW 0 (by repeat (first | omega | exact rg_lt | exact ns_lt | exact ps_lt | exact gst_lt | exact ofS_lt | exact if_lt (by decide) (by decide) | apply fo_lt))) lX11_fails mX11_106 (Nat.lt_of_lt_of_le (by decide) (Nat.le_refl _)) (by decide) sc_12 rfl rfl rfl rfl dX11_path_79 (fun σ_5 eσ_5 => ?_)
          obtain ⟨eσ_5_a, eσ_5_b⟩ := eσ_5
          have eσ_5_a : σ_5 14000 = (nI 0) := eσ_5_a
          have eσ_5_b : ∀ a, (a ≠ 14000) → σ_5 a = σ_3 a := eσ_5_b
          have ht15020_σ_5 : σ_5 15020 = (nI ((gnw μ (toN i) (toN j)).2.1 - 1)) := by rw [eσ_5_b _ (by first | omega | (simp only [vb] at *; omega))]; first | exact ht15020_σ_3 | assumption
          have ht15021_σ_5 : σ_5 15021 = (nI ((gnw μ (toN i) (toN j)).1)) := by rw [eσ_5_b _ (by first | omega | (simp only [vb] at *; omega))]; first | exact ht15021_σ_3 | assumption
          have ht15022_σ_5 : σ_5 15022 = ((gnw μ (toN i) (toN j)).2.2.2) := by rw [eσ_5_b _ (by first | omega | (simp only [vb] at *; omega))]; first | exact ht15022_σ_3 | assumption
          have ht14000_σ_5 : σ_5 14000 = (nI 0) := eσ_5_a
          have hcFR_σ_5 : ∀ a, (a < 14900 ∧ a ≠ 14000) → σ_5 a = σ a := by intro a ha; exact Eq.trans (b := σ_3 a) (eσ_5_b a (by first | omega | (simp only [vb] at *; omega))) (hcFR_σ_3 a ha)
          have hcCA_σ_5 : CA σ_5 μ := by exact CA.fr hcCA_σ_3 hI (fun a ha hb => eσ_5_b a (by first | omega | (simp only [vb] at *; omega)))
          have hcGN_σ_5 : GN 15170 σ_5 (gnw μ (toN i) (toN j)).2.1 (gnw μ (toN i) (toN j)).2.2.1 := by exact GN.fr hcGN_σ_3 (fun a ha hb => eσ_5_b a (by omega))
          have hvσ_5 : vw (vb 0) σ_5 = μ := by rw [vw_fr (σ := σ_3) (fun j _ _ => eσ_5_b _ (by first | omega | (simp only [vb] at *; omega)))]; first | exact hvσ_3 | assumption
          refine g_top (y := nI 0) rfl ?_
          refine g_ifN_eq h dX11_path_82 (by decide) (fun c82 => ?_) (fun c82 => absurd c82 (by decide))
          refine g_aload_n h dX11_path_89 0 rfl ?_
          refine g_getr h dX11_path_90 gX11_58 sc_12 rfl ?_
          refine g_getr h dX11_path_93 gX11_319 sc_23 rfl ?_
          refine g_iload_n h dX11_path_96 3 rfl ?_
          refine g_iald h dX11_path_97 sc_24 (by omega) ?_
          refine g_top (y := (nI ((gnw μ (toN i) (toN j)).2.2.1 (toN z)))) (hcGN_σ_5 (toN z) (by omega)) ?_
          exact g_iret h hQ dX11_path_98 (congrArg (fun z => some (Value.int z)) (show (an (fo (fo (ng z) (gst μ i j)) (if (gnw μ (toN i) (toN j)).2.1 ≤ toN z then 7 else 0)) (nI ((gnw μ (toN i) (toN j)).2.2.1 (toN z)))) = (nI ((gnw μ (toN i) (toN j)).2.2.1 (toN z))) by first | exact an_yes (by first | exact (fo_r hA).trans (if_pos (by omega)) | exact (fo_r hA).trans (if_neg (by omega)) | (rw [← hnz]; exact fo_l (nb1 c22)) | fail) (by rfl) | exact an_no (k := 0) (by first | exact (fo_r hA).trans (if_pos (by omega)) | exact (fo_r hA).trans (if_neg (by omega)) | (rw [← hnz]; exact fo_l (nb1 c22)) | fail) (by first | decide | omega | assumption | exact nb1 (by assumption)) | fail)) (by exact ⟨(by first | exact tk_eq (k := 0) (by first | exact (fo_r hA).trans (if_pos (by omega)) | exact (fo_r hA).trans (if_neg (by omega)) | (rw [← hnz]; exact fo_l (nb1 c22)) | fail) ht14000_σ_5 | exact tk_eq (k := 0) (by first | exact (fo_r hA).trans (if_pos (by omega)) | exact (fo_r hA).trans (if_neg (by omega)) | (rw [← hnz]; exact fo_l (nb1 c22)) | fail) ht14000_σ_5 | fail), (by exact hcFR_σ_5)⟩)
        ·
          refine g_bipush h dX11_path_73 (by decide) ?_
          refine g_goto h dX11_path_75 ?_
          refine g_cvi (rest := []) h (c_fails hW 7 (by repeat (first | omega | exact rg_lt | exact ns_lt | exact ps_lt | exact gst_lt | exact ofS_lt | exact if_lt (by decide) (by decide) | apply fo_lt))) lX11_fails mX11_106 (Nat.lt_of_lt_of_le (by decide) (Nat.le_refl _)) (by decide) sc_12 rfl rfl rfl rfl dX11_path_79 (fun σ_6 eσ_6 => ?_)
          obtain ⟨eσ_6_a, eσ_6_b⟩ := eσ_6
          have eσ_6_a : σ_6 14000 = (nI 7) := eσ_6_a
          have eσ_6_b : ∀ a, (a ≠ 14000) → σ_6 a = σ_3 a := eσ_6_b
          have ht15020_σ_6 : σ_6 15020 = (nI ((gnw μ (toN i) (toN j)).2.1 - 1)) := by rw [eσ_6_b _ (by first | omega | (simp only [vb] at *; omega))]; first | exact ht15020_σ_3 | assumption
          have ht15021_σ_6 : σ_6 15021 = (nI ((gnw μ (toN i) (toN j)).1)) := by rw [eσ_6_b _ (by first | omega | (simp only [vb] at *; omega))]; first | exact ht15021_σ_3 | assumption
          have ht15022_σ_6 : σ_6 15022 = ((gnw μ (toN i) (toN j)).2.2.2) := by rw [eσ_6_b _ (by first | omega | (simp only [vb] at *; omega))]; first | exact ht15022_σ_3 | assumption
          have ht14000_σ_6 : σ_6 14000 = (nI 7) := eσ_6_a
          have hcFR_σ_6 : ∀ a, (a < 14900 ∧ a ≠ 14000) → σ_6 a = σ a := by intro a ha; exact Eq.trans (b := σ_3 a) (eσ_6_b a (by first | omega | (simp only [vb] at *; omega))) (hcFR_σ_3 a ha)
          have hcCA_σ_6 : CA σ_6 μ := by exact CA.fr hcCA_σ_3 hI (fun a ha hb => eσ_6_b a (by first | omega | (simp only [vb] at *; omega)))
          have hcGN_σ_6 : GN 15170 σ_6 (gnw μ (toN i) (toN j)).2.1 (gnw μ (toN i) (toN j)).2.2.1 := by exact GN.fr hcGN_σ_3 (fun a ha hb => eσ_6_b a (by omega))
          have hvσ_6 : vw (vb 0) σ_6 = μ := by rw [vw_fr (σ := σ_3) (fun j _ _ => eσ_6_b _ (by first | omega | (simp only [vb] at *; omega)))]; first | exact hvσ_3 | assumption
          refine g_top (y := nI 1) rfl ?_
          refine g_ifN_eq h dX11_path_82 (by decide) (fun c82 => absurd c82 (by decide)) (fun c82 => ?_)
          refine g_iconstv h dX11_path_85 (v := (-1)) (by decide) ?_
          refine g_goto h dX11_path_86 ?_
          exact g_iret h hQ dX11_path_98 (congrArg (fun z => some (Value.int z)) (show (an (fo (fo (ng z) (gst μ i j)) (if (gnw μ (toN i) (toN j)).2.1 ≤ toN z then 7 else 0)) (nI ((gnw μ (toN i) (toN j)).2.2.1 (toN z)))) = (-1) by first | exact an_yes (by first | exact (fo_r hA).trans (if_pos (by omega)) | exact (fo_r hA).trans (if_neg (by omega)) | (rw [← hnz]; exact fo_l (nb1 c22)) | fail) (by rfl) | exact an_no (k := 7) (by first | exact (fo_r hA).trans (if_pos (by omega)) | exact (fo_r hA).trans (if_neg (by omega)) | (rw [← hnz]; exact fo_l (nb1 c22)) | fail) (by first | decide | omega | assumption | exact nb1 (by assumption)) | fail)) (by exact ⟨(by first | exact tk_eq (k := 7) (by first | exact (fo_r hA).trans (if_pos (by omega)) | exact (fo_r hA).trans (if_neg (by omega)) | (rw [← hnz]; exact fo_l (nb1 c22)) | fail) ht14000_σ_6 | exact tk_eq (k := 7) (by first | exact (fo_r hA).trans (if_pos (by omega)) | exact (fo_r hA).trans (if_neg (by omega)) | (rw [← hnz]; exact fo_l (nb1 c22)) | fail) ht14000_σ_6 | fail), (by exact hcFR_σ_6)⟩)
    ·
      refine g_iconstv h dX11_path_25 (v := (-1)) (by decide) ?_
      exact g_iret h hQ dX11_path_26 (congrArg (fun z => some (Value.int z)) (show (an (fo (fo (ng z) (gst μ i j)) (if (gnw μ (toN i) (toN j)).2.1 ≤ toN z then 7 else 0)) (nI ((gnw μ (toN i) (toN j)).2.2.1 (toN z)))) = (-1) by first | exact an_yes (by first | exact (fo_r hA).trans (if_pos (by omega)) | exact (fo_r hA).trans (if_neg (by omega)) | (rw [← hnz]; exact fo_l (nb1 c22)) | fail) (by rfl) | exact an_no (k := (fo nz (gst μ i j))) (by first | exact (fo_r hA).trans (if_pos (by omega)) | exact (fo_r hA).trans (if_neg (by omega)) | (rw [← hnz]; exact fo_l (nb1 c22)) | fail) (by first | decide | omega | assumption | exact nb1 (by assumption)) | fail)) (by exact ⟨(by first | exact tk_eq (k := (fo nz (gst μ i j))) (by first | exact (fo_r hA).trans (if_pos (by omega)) | exact (fo_r hA).trans (if_neg (by omega)) | (rw [← hnz]; exact fo_l (nb1 c22)) | fail) ht14000_σ_1 | exact tk_eq (k := (fo nz (gst μ i j))) (by first | exact (fo_r hA).trans (if_pos (by omega)) | exact (fo_r hA).trans (if_neg (by omega)) | (rw [← hnz]; exact fo_l (nb1 c22)) | fail) ht14000_σ_1 | fail), (by exact hcFR_σ_1)⟩)
  refine g_aload_n h dX11_path_0 0 rfl ?_
  refine g_iload_n h dX11_path_1 3 rfl ?_
  refine g_if_ge h dX11_path_2 (fun c2 => ?_) (fun c2 => ?_)
  ·
    refine g_iconst h dX11_path_9 (by decide) ?_
    exact J10 0 (by first | exact (ng_0 (Int32.not_lt.mpr c2)).symm | exact (ng_1 (Int32.not_le.mp c2)).symm | fail | fail)
  ·
    refine g_iconst h dX11_path_5 (by decide) ?_
    refine g_goto h dX11_path_6 ?_
    exact J10 1 (by first | exact (ng_0 (Int32.not_lt.mpr c2)).symm | exact (ng_1 (Int32.not_le.mp c2)).symm | fail | fail)
