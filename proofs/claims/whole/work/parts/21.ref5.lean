set_option maxRecDepth 100000 in
set_option maxHeartbeats 4000000 in
theorem r_notices {l : Launch} {w : Wd} (hW : Wi w) {σ : Mem} (node : Nat) (μ : Nat → Int32) (d ls nt : Nat) (lo : Int32) (g : Nat → Nat → Int32) (hv : vw 0 σ = μ) (hI : MI μ) (hn : node < nN μ) (hon : tb (μ 1) node = true) (hnt : nt < 2 ^ 30) (hcRLs_σ : RLs σ d ls lo) (hcLR_σ : LR 0 σ nt g) : MC l w qX12_notices 4 [.ref (w.1 0), .int (nI node)] σ none (fun σ' => (vw 0 σ' = upd (upd (flS node false true ls (rnw μ node) d lo).2.2.2.2.1 7 ((flS node false true ls (rnw μ node) d lo).2.2.2.2.1 7 + nI 1)) 8 ((flS node false true ls (rnw μ node) d lo).2.2.2.2.1 8 + nI (flS node false true ls (rnw μ node) d lo).2.1)) ∧ (RLs σ' (flS node false true ls (rnw μ node) d lo).2.2.2.2.2.1 ls (flS node false true ls (rnw μ node) d lo).2.2.2.2.2.2) ∧ (LR 0 σ' (nt + 1) (pu g (μ 2) (nI node) (nI (pc (flS node false true ls (rnw μ node) d lo).2.2.2.1)) (nI (flS node false true ls (rnw μ node) d lo).2.1))) ∧ (∀ a, (528 ≤ a ∧ (a < 4900 ∨ a = 4901 ∨ 6000 ≤ a)) → σ' a = σ a)) := by
  refine MC.of hW (by decide +kernel) (Nat.le_of_ble_eq_true rfl) (fun X h hQ hnm => ?_)
  have h : Fx X w cX12_notices 3 RX12 4 := h
  have hQ : Qx X w none none (fun σ' => (vw 0 σ' = upd (upd (flS node false true ls (rnw μ node) d lo).2.2.2.2.1 7 ((flS node false true ls (rnw μ node) d lo).2.2.2.2.1 7 + nI 1)) 8 ((flS node false true ls (rnw μ node) d lo).2.2.2.2.1 8 + nI (flS node false true ls (rnw μ node) d lo).2.1)) ∧ (RLs σ' (flS node false true ls (rnw μ node) d lo).2.2.2.2.2.1 ls (flS node false true ls (rnw μ node) d lo).2.2.2.2.2.2) ∧ (LR 0 σ' (nt + 1) (pu g (μ 2) (nI node) (nI (pc (flS node false true ls (rnw μ node) d lo).2.2.2.1)) (nI (flS node false true ls (rnw μ node) d lo).2.1))) ∧ (∀ a, (528 ≤ a ∧ (a < 4900 ∨ a = 4901 ∨ 6000 ≤ a)) → σ' a = σ a)) := hQ
  have hN8 := mi_8 hI
  have hn8 : node < 8 := by omega
  have hIr := rn_mi hI hn8
  have hNr := rn_N (μ := μ) hn8
  have hnr : node < nN (rnw μ node) := by rw [hNr]; exact hn
  have hor : tb (rnw μ node 1) node = true := by rw [rn_fix (by omega) hn8]; exact hon
  have hWf := FW.all (ls := ls) (d := d) (bl := false) (td := true) (lo := lo) hIr hnr hor
  have hgs : sb 8 (flS node false true ls (rnw μ node) d lo).2.2.2.1 := sb_mono (by rw [hNr]; exact hN8) hWf.2.2.2.2.2.1
  have hm8 := hWf.le8
  have hcFR_σ : ∀ a, (528 ≤ a ∧ (a < 4900 ∨ a = 4901 ∨ 6000 ≤ a)) → σ a = σ a := fun _ _ => rfl
  show G X w 3 0 [(0, .ref (w.1 0)), (1, .int (nI node))] [] σ
  have J56 : ∀ (τ : Mem), (vw 0 τ = rnw μ node) → (RLs τ d ls lo) → (LR 0 τ nt g) → (∀ a, (528 ≤ a ∧ (a < 4900 ∨ a = 4901 ∨ 6000 ≤ a)) → τ a = σ a) → G X w 3 56 [(0, .ref (w.1 0)), (1, .int (nI node))] [] (τ) := by
    intro τ hvτ hcRLs_τ hcLR_τ hcFR_τ
    refine g_aload_n h dX12_notices_56 0 rfl ?_
    refine g_iload_n h dX12_notices_57 1 rfl ?_
    refine g_iconst h dX12_notices_58 (by decide) ?_
    refine g_iconst h dX12_notices_59 (by decide) ?_
    refine g_cvv (rest := []) h (r_floods hW node false true (rnw μ node) d ls lo (by first | exact hvτ | assumption | fail) (by assumption) (by omega) (by first | assumption | simpa using ‹_› | fail) (by first | exact hcRLs_τ | assumption | fail)) lX12_floods mX12_159 (Nat.lt_of_lt_of_le (by decide) (Nat.le_refl _)) (by decide) sc_0 rfl rfl rfl rfl dX12_notices_60 (fun σ_1 eσ_1 => ?_)
    obtain ⟨eσ_1_a, eσ_1_b, eσ_1_c, eσ_1_d, eσ_1_e⟩ := eσ_1
    have eσ_1_a : vw 0 σ_1 = (flS node false true ls (rnw μ node) d lo).2.2.2.2.1 := eσ_1_a
    have eσ_1_b : σ_1 5002 = ((flS node false true ls (rnw μ node) d lo).2.2.2.1) := eσ_1_b
    have eσ_1_c : σ_1 5003 = (nI ((flS node false true ls (rnw μ node) d lo).2.1)) := eσ_1_c
    have eσ_1_d : RLs σ_1 (flS node false true ls (rnw μ node) d lo).2.2.2.2.2.1 ls (flS node false true ls (rnw μ node) d lo).2.2.2.2.2.2 := eσ_1_d
    have eσ_1_e : ∀ a, (464 ≤ a ∧ (a < 4900 ∨ a = 4901 ∨ 4903 ≤ a) ∧ (a < 5001 ∨ 5004 ≤ a) ∧ (a < 5140 ∨ 5148 ≤ a) ∨ a = 10) → σ_1 a = (τ) a := eσ_1_e
    have ht5002_σ_1 : σ_1 5002 = ((flS node false true ls (rnw μ node) d lo).2.2.2.1) := eσ_1_b
    have ht5003_σ_1 : σ_1 5003 = (nI ((flS node false true ls (rnw μ node) d lo).2.1)) := eσ_1_c
    have hcRLs_σ_1 : RLs σ_1 (flS node false true ls (rnw μ node) d lo).2.2.2.2.2.1 ls (flS node false true ls (rnw μ node) d lo).2.2.2.2.2.2 := eσ_1_d
    have hcLR_σ_1 : LR 0 σ_1 nt g := by exact LR.fr hcLR_τ (fun a ha => eσ_1_e a (by first | omega | (simp only [vb] at *; omega)))
    have hcFR_σ_1 : ∀ a, (528 ≤ a ∧ (a < 4900 ∨ a = 4901 ∨ 6000 ≤ a)) → σ_1 a = σ a := by intro a ha; exact Eq.trans (b := (τ) a) (eσ_1_e a (by first | omega | (simp only [vb] at *; omega))) (hcFR_τ a ha)
    obtain ⟨μf, eμf⟩ : ∃ μf : Nat → Int32, μf = (flS node false true ls (rnw μ node) d lo).2.2.2.2.1 := ⟨_, rfl⟩
    have hvσ_1 : vw 0 σ_1 = μf := by rw [eμf]; exact eσ_1_a
    refine g_aload_n h dX12_notices_63 0 rfl ?_
    refine g_bipush h dX12_notices_64 (by decide) ?_
    refine g_iconst h dX12_notices_66 (by decide) ?_
    refine g_cvv (rest := []) h (r_addsP hW 7 (nI 1) μf (by first | exact hvσ_1 | assumption | fail) (by omega)) lX12_adds mX12_141 (Nat.lt_of_lt_of_le (by decide) (Nat.le_refl _)) (by decide) sc_0 rfl rfl rfl rfl dX12_notices_67 (fun σ_2 eσ_2 => ?_)
    have eσ_2_a : σ_2 = upd σ_1 (0 + 7) (μf 7 + (nI 1)) := eσ_2
    have ht5002_σ_2 : σ_2 5002 = ((flS node false true ls (rnw μ node) d lo).2.2.2.1) := by rw [eσ_2_a, upd_ne (by first | omega | (simp only [vb] at *; omega))]; first | exact ht5002_σ_1 | assumption
    have ht5003_σ_2 : σ_2 5003 = (nI ((flS node false true ls (rnw μ node) d lo).2.1)) := by rw [eσ_2_a, upd_ne (by first | omega | (simp only [vb] at *; omega))]; first | exact ht5003_σ_1 | assumption
    have hcRLs_σ_2 : RLs σ_2 (flS node false true ls (rnw μ node) d lo).2.2.2.2.2.1 ls (flS node false true ls (rnw μ node) d lo).2.2.2.2.2.2 := by rw [eσ_2_a]; exact RLs.fr hcRLs_σ_1 (upd_ne (by omega)) (upd_ne (by omega)) (upd_ne (by omega))
    have hcLR_σ_2 : LR 0 σ_2 nt g := by rw [eσ_2_a]; exact LR.fr hcLR_σ_1 (fun a ha => upd_ne (by first | omega | (simp only [vb] at *; omega)))
    have hcFR_σ_2 : ∀ a, (528 ≤ a ∧ (a < 4900 ∨ a = 4901 ∨ 6000 ≤ a)) → σ_2 a = σ a := by intro a ha; exact Eq.trans (b := σ_1 a) (by rw [eσ_2_a, upd_ne (by first | omega | (simp only [vb] at *; omega))]) (hcFR_σ_1 a ha)
    obtain ⟨μg, eμg⟩ : ∃ μg : Nat → Int32, μg = upd μf 7 (μf 7 + (nI 1)) := ⟨_, rfl⟩
    have hvσ_2 : vw 0 σ_2 = μg := by rw [eσ_2_a, eμg, vw_in (by omega)]; congr 1
    refine g_aload_n h dX12_notices_70 0 rfl ?_
    refine g_bipush h dX12_notices_71 (by decide) ?_
    refine g_aload_n h dX12_notices_73 0 rfl ?_
    refine g_geti h dX12_notices_74 gX12_150 sc_0 rfl ?_
    refine g_top (y := (nI ((flS node false true ls (rnw μ node) d lo).2.1))) (by first | exact ht5003_σ_2 | assumption) ?_
    refine g_cvv (rest := []) h (r_addsP hW 8 (nI ((flS node false true ls (rnw μ node) d lo).2.1)) μg (by first | exact hvσ_2 | assumption | fail) (by omega)) lX12_adds mX12_141 (Nat.lt_of_lt_of_le (by decide) (Nat.le_refl _)) (by decide) sc_0 rfl rfl rfl rfl dX12_notices_77 (fun σs eσs => ?_)
    have eσs_a : σs = upd σ_2 (0 + 8) (μg 8 + (nI ((flS node false true ls (rnw μ node) d lo).2.1))) := eσs
    have ht5002_σs : σs 5002 = ((flS node false true ls (rnw μ node) d lo).2.2.2.1) := by rw [eσs_a, upd_ne (by first | omega | (simp only [vb] at *; omega))]; first | exact ht5002_σ_2 | assumption
    have ht5003_σs : σs 5003 = (nI ((flS node false true ls (rnw μ node) d lo).2.1)) := by rw [eσs_a, upd_ne (by first | omega | (simp only [vb] at *; omega))]; first | exact ht5003_σ_2 | assumption
    have hcRLs_σs : RLs σs (flS node false true ls (rnw μ node) d lo).2.2.2.2.2.1 ls (flS node false true ls (rnw μ node) d lo).2.2.2.2.2.2 := by rw [eσs_a]; exact RLs.fr hcRLs_σ_2 (upd_ne (by omega)) (upd_ne (by omega)) (upd_ne (by omega))
    have hcLR_σs : LR 0 σs nt g := by rw [eσs_a]; exact LR.fr hcLR_σ_2 (fun a ha => upd_ne (by first | omega | (simp only [vb] at *; omega)))
    have hcFR_σs : ∀ a, (528 ≤ a ∧ (a < 4900 ∨ a = 4901 ∨ 6000 ≤ a)) → σs a = σ a := by intro a ha; exact Eq.trans (b := σ_2 a) (by rw [eσs_a, upd_ne (by first | omega | (simp only [vb] at *; omega))]) (hcFR_σ_2 a ha)
    obtain ⟨μz, eμz⟩ : ∃ μz : Nat → Int32, μz = upd μg 8 (μg 8 + (nI ((flS node false true ls (rnw μ node) d lo).2.1))) := ⟨_, rfl⟩
    have hvσs : vw 0 σs = μz := by rw [eσs_a, eμz, vw_in (by omega)]; congr 1
    have J127 : ∀ (τ2 : Mem), (τ2 (0 + 10) = nI (min nt 15) ∧ ∀ i w, i < min nt 15 → w < 4 → τ2 (0 + 464 + (4 * (min nt 15 - 1 - i) + w)) = g i w) → (vw 0 τ2 = μz) → (τ2 5002 = ((flS node false true ls (rnw μ node) d lo).2.2.2.1)) → (τ2 5003 = (nI ((flS node false true ls (rnw μ node) d lo).2.1))) → (RLs τ2 (flS node false true ls (rnw μ node) d lo).2.2.2.2.2.1 ls (flS node false true ls (rnw μ node) d lo).2.2.2.2.2.2) → (∀ a, (528 ≤ a ∧ (a < 4900 ∨ a = 4901 ∨ 6000 ≤ a)) → τ2 a = σ a) → G X w 3 127 [(0, .ref (w.1 0)), (1, .int (nI node))] [] (τ2) := by
      intro τ2 hm hvτ2 ht5002_τ2 ht5003_τ2 hcRLs_τ2 hcFR_τ2
      refine g_sipush h dX12_notices_127 (by decide) ?_
      refine g_iconst h dX12_notices_130 (by decide) ?_
      refine g_aload_n h dX12_notices_131 0 rfl ?_
      refine g_bipush h dX12_notices_132 (by decide) ?_
      refine g_cvpi (rest := [.int (nI 4), .int (nI 464)]) h (r_ofr hW 10 (by omega)) lX12_of mX12_61 (Nat.lt_of_lt_of_le (by decide) (Nat.le_refl _)) (by decide) sc_0 rfl rfl rfl rfl dX12_notices_134 ?_
      refine g_top (y := (nI (min nt 15))) hm.1 ?_
      refine g_imulN h dX12_notices_137  ?_
      refine g_iaddN h dX12_notices_138  ?_
      refine g_istore_n (L' := [(0, .ref (w.1 0)), (1, .int (nI node)), (2, .int (nI (464 + 4 * (min nt 15))))]) h dX12_notices_139 rfl (by decide) rfl ?_
      refine g_aload_n h dX12_notices_140 0 rfl ?_
      refine g_iload_n h dX12_notices_141 2 rfl ?_
      refine g_aload_n h dX12_notices_142 0 rfl ?_
      refine g_iconst h dX12_notices_143 (by decide) ?_
      refine g_cvpi (rest := [.int (nI (464 + 4 * (min nt 15))), .ref (w.1 0)]) h (r_of hW 2 μz (by assumption) (by omega)) lX12_of mX12_61 (Nat.lt_of_lt_of_le (by decide) (Nat.le_refl _)) (by decide) sc_0 rfl rfl rfl rfl dX12_notices_144 ?_
      refine g_top (y := (μ 2)) (by rw [eμz, upd_ne (by omega), eμg, upd_ne (by omega), eμf, hWf.2.1 2 (by omega) (by omega), rn_fix (by omega) hn8]) ?_
      refine g_cvv (rest := []) h (r_puts hW (464 + 4 * (min nt 15)) (μ 2) (by omega)) lX12_puts mX12_57 (Nat.lt_of_lt_of_le (by decide) (Nat.le_refl _)) (by decide) sc_0 rfl rfl rfl rfl dX12_notices_147 (fun σp0 eσp0 => ?_)
      have eσp0_a : σp0 = upd (τ2) (0 + (464 + 4 * (min nt 15))) (μ 2) := eσp0
      have ht5002_σp0 : σp0 5002 = ((flS node false true ls (rnw μ node) d lo).2.2.2.1) := by rw [eσp0_a, upd_ne (by first | omega | (simp only [vb] at *; omega))]; first | exact ht5002_τ2 | assumption
      have ht5003_σp0 : σp0 5003 = (nI ((flS node false true ls (rnw μ node) d lo).2.1)) := by rw [eσp0_a, upd_ne (by first | omega | (simp only [vb] at *; omega))]; first | exact ht5003_τ2 | assumption
      have hcRLs_σp0 : RLs σp0 (flS node false true ls (rnw μ node) d lo).2.2.2.2.2.1 ls (flS node false true ls (rnw μ node) d lo).2.2.2.2.2.2 := by rw [eσp0_a]; exact RLs.fr hcRLs_τ2 (upd_ne (by omega)) (upd_ne (by omega)) (upd_ne (by omega))
      have hcFR_σp0 : ∀ a, (528 ≤ a ∧ (a < 4900 ∨ a = 4901 ∨ 6000 ≤ a)) → σp0 a = σ a := by intro a ha; exact Eq.trans (b := (τ2) a) (by rw [eσp0_a, upd_ne (by first | omega | (simp only [vb] at *; omega))]) (hcFR_τ2 a ha)
      have hvσp0 : vw 0 σp0 = μz := by rw [eσp0_a, vw_out (by first | omega | (simp only [vb] at *; omega))]; first | exact hvτ2 | assumption
      refine g_aload_n h dX12_notices_150 0 rfl ?_
      refine g_iload_n h dX12_notices_151 2 rfl ?_
      refine g_iconst h dX12_notices_152 (by decide) ?_
      refine g_iaddN h dX12_notices_153  ?_
      refine g_iload_n h dX12_notices_154 1 rfl ?_
      refine g_cvv (rest := []) h (r_puts hW (464 + 4 * (min nt 15) + 1) (nI node) (by omega)) lX12_puts mX12_57 (Nat.lt_of_lt_of_le (by decide) (Nat.le_refl _)) (by decide) sc_0 rfl rfl rfl rfl dX12_notices_155 (fun σp1 eσp1 => ?_)
      have eσp1_a : σp1 = upd σp0 (0 + (464 + 4 * (min nt 15) + 1)) (nI node) := eσp1
      have ht5002_σp1 : σp1 5002 = ((flS node false true ls (rnw μ node) d lo).2.2.2.1) := by rw [eσp1_a, upd_ne (by first | omega | (simp only [vb] at *; omega))]; first | exact ht5002_σp0 | assumption
      have ht5003_σp1 : σp1 5003 = (nI ((flS node false true ls (rnw μ node) d lo).2.1)) := by rw [eσp1_a, upd_ne (by first | omega | (simp only [vb] at *; omega))]; first | exact ht5003_σp0 | assumption
      have hcRLs_σp1 : RLs σp1 (flS node false true ls (rnw μ node) d lo).2.2.2.2.2.1 ls (flS node false true ls (rnw μ node) d lo).2.2.2.2.2.2 := by rw [eσp1_a]; exact RLs.fr hcRLs_σp0 (upd_ne (by omega)) (upd_ne (by omega)) (upd_ne (by omega))
      have hcFR_σp1 : ∀ a, (528 ≤ a ∧ (a < 4900 ∨ a = 4901 ∨ 6000 ≤ a)) → σp1 a = σ a := by intro a ha; exact Eq.trans (b := σp0 a) (by rw [eσp1_a, upd_ne (by first | omega | (simp only [vb] at *; omega))]) (hcFR_σp0 a ha)
      have hvσp1 : vw 0 σp1 = μz := by rw [eσp1_a, vw_out (by first | omega | (simp only [vb] at *; omega))]; first | exact hvσp0 | assumption
      refine g_aload_n h dX12_notices_158 0 rfl ?_
      refine g_iload_n h dX12_notices_159 2 rfl ?_
      refine g_iconst h dX12_notices_160 (by decide) ?_
      refine g_iaddN h dX12_notices_161  ?_
      refine g_aload_n h dX12_notices_162 0 rfl ?_
      refine g_geti h dX12_notices_163 gX12_147 sc_0 rfl ?_
      refine g_top (y := ((flS node false true ls (rnw μ node) d lo).2.2.2.1)) (by first | exact ht5002_σp1 | assumption) ?_
      refine g_cspi (rest := [.int (nI (464 + 4 * (min nt 15) + 2)), .ref (w.1 0)]) h (r_bits hW ((flS node false true ls (rnw μ node) d lo).2.2.2.1) (by first | assumption | exact sb_andl (by assumption) | fail)) lX12_bits mX12_83 (Nat.lt_of_lt_of_le (by decide) (Nat.le_refl _)) (by decide) rfl rfl rfl dX12_notices_166 ?_
      have p9_166 := pc_le ((flS node false true ls (rnw μ node) d lo).2.2.2.1)
      refine g_cvv (rest := []) h (r_puts hW (464 + 4 * (min nt 15) + 2) (nI (pc ((flS node false true ls (rnw μ node) d lo).2.2.2.1))) (by omega)) lX12_puts mX12_57 (Nat.lt_of_lt_of_le (by decide) (Nat.le_refl _)) (by decide) sc_0 rfl rfl rfl rfl dX12_notices_169 (fun σp2 eσp2 => ?_)
      have eσp2_a : σp2 = upd σp1 (0 + (464 + 4 * (min nt 15) + 2)) (nI (pc ((flS node false true ls (rnw μ node) d lo).2.2.2.1))) := eσp2
      have ht5002_σp2 : σp2 5002 = ((flS node false true ls (rnw μ node) d lo).2.2.2.1) := by rw [eσp2_a, upd_ne (by first | omega | (simp only [vb] at *; omega))]; first | exact ht5002_σp1 | assumption
      have ht5003_σp2 : σp2 5003 = (nI ((flS node false true ls (rnw μ node) d lo).2.1)) := by rw [eσp2_a, upd_ne (by first | omega | (simp only [vb] at *; omega))]; first | exact ht5003_σp1 | assumption
      have hcRLs_σp2 : RLs σp2 (flS node false true ls (rnw μ node) d lo).2.2.2.2.2.1 ls (flS node false true ls (rnw μ node) d lo).2.2.2.2.2.2 := by rw [eσp2_a]; exact RLs.fr hcRLs_σp1 (upd_ne (by omega)) (upd_ne (by omega)) (upd_ne (by omega))
      have hcFR_σp2 : ∀ a, (528 ≤ a ∧ (a < 4900 ∨ a = 4901 ∨ 6000 ≤ a)) → σp2 a = σ a := by intro a ha; exact Eq.trans (b := σp1 a) (by rw [eσp2_a, upd_ne (by first | omega | (simp only [vb] at *; omega))]) (hcFR_σp1 a ha)
      have hvσp2 : vw 0 σp2 = μz := by rw [eσp2_a, vw_out (by first | omega | (simp only [vb] at *; omega))]; first | exact hvσp1 | assumption
      refine g_aload_n h dX12_notices_172 0 rfl ?_
      refine g_iload_n h dX12_notices_173 2 rfl ?_
      refine g_iconst h dX12_notices_174 (by decide) ?_
      refine g_iaddN h dX12_notices_175  ?_
      refine g_aload_n h dX12_notices_176 0 rfl ?_
      refine g_geti h dX12_notices_177 gX12_150 sc_0 rfl ?_
      refine g_top (y := (nI ((flS node false true ls (rnw μ node) d lo).2.1))) (by first | exact ht5003_σp2 | assumption) ?_
      refine g_cvv (rest := []) h (r_puts hW (464 + 4 * (min nt 15) + 3) (nI ((flS node false true ls (rnw μ node) d lo).2.1)) (by omega)) lX12_puts mX12_57 (Nat.lt_of_lt_of_le (by decide) (Nat.le_refl _)) (by decide) sc_0 rfl rfl rfl rfl dX12_notices_180 (fun σp3 eσp3 => ?_)
      have eσp3_a : σp3 = upd σp2 (0 + (464 + 4 * (min nt 15) + 3)) (nI ((flS node false true ls (rnw μ node) d lo).2.1)) := eσp3
      have ht5002_σp3 : σp3 5002 = ((flS node false true ls (rnw μ node) d lo).2.2.2.1) := by rw [eσp3_a, upd_ne (by first | omega | (simp only [vb] at *; omega))]; first | exact ht5002_σp2 | assumption
      have ht5003_σp3 : σp3 5003 = (nI ((flS node false true ls (rnw μ node) d lo).2.1)) := by rw [eσp3_a, upd_ne (by first | omega | (simp only [vb] at *; omega))]; first | exact ht5003_σp2 | assumption
      have hcRLs_σp3 : RLs σp3 (flS node false true ls (rnw μ node) d lo).2.2.2.2.2.1 ls (flS node false true ls (rnw μ node) d lo).2.2.2.2.2.2 := by rw [eσp3_a]; exact RLs.fr hcRLs_σp2 (upd_ne (by omega)) (upd_ne (by omega)) (upd_ne (by omega))
      have hcFR_σp3 : ∀ a, (528 ≤ a ∧ (a < 4900 ∨ a = 4901 ∨ 6000 ≤ a)) → σp3 a = σ a := by intro a ha; exact Eq.trans (b := σp2 a) (by rw [eσp3_a, upd_ne (by first | omega | (simp only [vb] at *; omega))]) (hcFR_σp2 a ha)
      have hvσp3 : vw 0 σp3 = μz := by rw [eσp3_a, vw_out (by first | omega | (simp only [vb] at *; omega))]; first | exact hvσp2 | assumption
      refine g_aload_n h dX12_notices_183 0 rfl ?_
      refine g_bipush h dX12_notices_184 (by decide) ?_
      refine g_iconst h dX12_notices_186 (by decide) ?_
      refine g_cvv (rest := []) h (r_adds hW 10 (nI 1) (by omega)) lX12_adds mX12_141 (Nat.lt_of_lt_of_le (by decide) (Nat.le_refl _)) (by decide) sc_0 rfl rfl rfl rfl dX12_notices_187 (fun σp4 eσp4 => ?_)
      have eσp4_a : σp4 = upd σp3 (0 + 10) (σp3 (0 + 10) + (nI 1)) := eσp4
      have ht5002_σp4 : σp4 5002 = ((flS node false true ls (rnw μ node) d lo).2.2.2.1) := by rw [eσp4_a, upd_ne (by first | omega | (simp only [vb] at *; omega))]; first | exact ht5002_σp3 | assumption
      have ht5003_σp4 : σp4 5003 = (nI ((flS node false true ls (rnw μ node) d lo).2.1)) := by rw [eσp4_a, upd_ne (by first | omega | (simp only [vb] at *; omega))]; first | exact ht5003_σp3 | assumption
      have hcRLs_σp4 : RLs σp4 (flS node false true ls (rnw μ node) d lo).2.2.2.2.2.1 ls (flS node false true ls (rnw μ node) d lo).2.2.2.2.2.2 := by rw [eσp4_a]; exact RLs.fr hcRLs_σp3 (upd_ne (by omega)) (upd_ne (by omega)) (upd_ne (by omega))
      have hcFR_σp4 : ∀ a, (528 ≤ a ∧ (a < 4900 ∨ a = 4901 ∨ 6000 ≤ a)) → σp4 a = σ a := by intro a ha; exact Eq.trans (b := σp3 a) (by rw [eσp4_a, upd_ne (by first | omega | (simp only [vb] at *; omega))]) (hcFR_σp3 a ha)
      have hvσp4 : vw 0 σp4 = μz := by rw [eσp4_a, vw_out (by first | omega | (simp only [vb] at *; omega))]; first | exact hvσp3 | assumption
      exact g_vret h hQ dX12_notices_190 rfl (by exact ⟨(by rw [hvσp4, eμz, eμg, eμf, upd_ne (show (8 : Nat) ≠ 7 by omega)]), (by first | exact hcRLs_σp4 | assumption | fail), (by exact log_done hm eσp0 eσp1 eσp2 eσp3 eσp4), (by exact hcFR_σp4)⟩)
    refine g_aload_n h dX12_notices_80 0 rfl ?_
    refine g_bipush h dX12_notices_81 (by decide) ?_
    refine g_cvpi (rest := []) h (r_ofr hW 10 (by omega)) lX12_of mX12_61 (Nat.lt_of_lt_of_le (by decide) (Nat.le_refl _)) (by decide) sc_0 rfl rfl rfl rfl dX12_notices_83 ?_
    refine g_top (y := (nI (min nt 16))) hcLR_σs.1 ?_
    refine g_bipush h dX12_notices_86 (by decide) ?_
    refine g_icmpN_ne h dX12_notices_88 (by omega) (by omega) (fun c88 => ?_) (fun c88 => ?_)
    ·
      exact J127 σs (by first | exact log_keep hcLR_σs (by omega) | exact log_shift hcLR_σs (by omega) eσt hsh hsk (by omega) | fail | fail) (by first | exact hvσs | assumption | fail | fail) (by first | exact ht5002_σs | assumption | fail | fail) (by first | exact ht5003_σs | assumption | fail | fail) (by first | exact hcRLs_σs | assumption | fail | fail) (by first | exact hcFR_σs | assumption | fail | fail)
    ·
      refine g_sipush h dX12_notices_91 (by decide) ?_
      refine g_istore_n (L' := [(0, .ref (w.1 0)), (1, .int (nI node)), (2, .int (nI 464))]) h dX12_notices_94 rfl (by decide) rfl ?_
      have lp95 : ∀ (k9 : Nat) (k : Nat) (τ1 : Mem), (464 ≤ k ∧ k ≤ 524) → (∀ a, 464 ≤ a → a < k → τ1 a = σs (a + 4)) → (∀ a, (a < 464 ∨ k ≤ a) → τ1 a = σs a) → (vw 0 τ1 = μz) → (τ1 5002 = ((flS node false true ls (rnw μ node) d lo).2.2.2.1)) → (τ1 5003 = (nI ((flS node false true ls (rnw μ node) d lo).2.1))) → (RLs τ1 (flS node false true ls (rnw μ node) d lo).2.2.2.2.2.1 ls (flS node false true ls (rnw μ node) d lo).2.2.2.2.2.2) → (∀ a, (528 ≤ a ∧ (a < 4900 ∨ a = 4901 ∨ 6000 ≤ a)) → τ1 a = σ a) → 524 - k < k9 → G X w 3 95 [(0, .ref (w.1 0)), (1, .int (nI node)), (2, .int (nI k))] [] (τ1) := by
        intro k9
        induction k9 with
        | zero => intro k τ1 hk hsh hsk hvτ1 ht5002_τ1 ht5003_τ1 hcRLs_τ1 hcFR_τ1 hm9; exact absurd hm9 (Nat.not_lt_zero _)
        | succ k9 ih95 =>
          intro k τ1 hk hsh hsk hvτ1 ht5002_τ1 ht5003_τ1 hcRLs_τ1 hcFR_τ1 hm95
          refine g_iload_n h dX12_notices_95 2 rfl ?_
          refine g_sipush h dX12_notices_96 (by decide) ?_
          refine g_icmpN_ge h dX12_notices_99 (by omega) (by omega) (fun c99 => ?_) (fun c99 => ?_)
          ·
            refine g_aload_n h dX12_notices_120 0 rfl ?_
            refine g_bipush h dX12_notices_121 (by decide) ?_
            refine g_iconstv h dX12_notices_123 (v := (-1)) (by decide) ?_
            refine g_cvv (rest := []) h (r_adds hW 10 (-1) (by omega)) lX12_adds mX12_141 (Nat.lt_of_lt_of_le (by decide) (Nat.le_refl _)) (by decide) sc_0 rfl rfl rfl rfl dX12_notices_124 (fun σt eσt => ?_)
            have eσt_a : σt = upd (τ1) (0 + 10) ((τ1) (0 + 10) + (-1)) := eσt
            have ht5002_σt : σt 5002 = ((flS node false true ls (rnw μ node) d lo).2.2.2.1) := by rw [eσt_a, upd_ne (by first | omega | (simp only [vb] at *; omega))]; first | exact ht5002_τ1 | assumption
            have ht5003_σt : σt 5003 = (nI ((flS node false true ls (rnw μ node) d lo).2.1)) := by rw [eσt_a, upd_ne (by first | omega | (simp only [vb] at *; omega))]; first | exact ht5003_τ1 | assumption
            have hcRLs_σt : RLs σt (flS node false true ls (rnw μ node) d lo).2.2.2.2.2.1 ls (flS node false true ls (rnw μ node) d lo).2.2.2.2.2.2 := by rw [eσt_a]; exact RLs.fr hcRLs_τ1 (upd_ne (by omega)) (upd_ne (by omega)) (upd_ne (by omega))
            have hcFR_σt : ∀ a, (528 ≤ a ∧ (a < 4900 ∨ a = 4901 ∨ 6000 ≤ a)) → σt a = σ a := by intro a ha; exact Eq.trans (b := (τ1) a) (by rw [eσt_a, upd_ne (by first | omega | (simp only [vb] at *; omega))]) (hcFR_τ1 a ha)
            have hvσt : vw 0 σt = μz := by rw [eσt_a, vw_out (by first | omega | (simp only [vb] at *; omega))]; first | exact hvτ1 | assumption
            exact g_sub [0, 1] rfl (J127 σt (by first | exact log_keep hcLR_σs (by omega) | exact log_shift hcLR_σs (by omega) eσt hsh hsk (by omega) | fail | fail) (by first | exact hvσt | assumption | fail | fail) (by first | exact ht5002_σt | assumption | fail | fail) (by first | exact ht5003_σt | assumption | fail | fail) (by first | exact hcRLs_σt | assumption | fail | fail) (by first | exact hcFR_σt | assumption | fail | fail))
          ·
            refine g_aload_n h dX12_notices_102 0 rfl ?_
            refine g_iload_n h dX12_notices_103 2 rfl ?_
            refine g_aload_n h dX12_notices_104 0 rfl ?_
            refine g_iload_n h dX12_notices_105 2 rfl ?_
            refine g_iconst h dX12_notices_106 (by decide) ?_
            refine g_iaddN h dX12_notices_107  ?_
            refine g_cvpi (rest := [.int (nI k), .ref (w.1 0)]) h (r_ofr hW (k + 4) (by omega)) lX12_of mX12_61 (Nat.lt_of_lt_of_le (by decide) (Nat.le_refl _)) (by decide) sc_0 rfl rfl rfl rfl dX12_notices_108 ?_
            refine g_cvv (rest := []) h (r_puts hW k ((τ1) (0 + (k + 4))) (by omega)) lX12_puts mX12_57 (Nat.lt_of_lt_of_le (by decide) (Nat.le_refl _)) (by decide) sc_0 rfl rfl rfl rfl dX12_notices_111 (fun σh eσh => ?_)
            have eσh_a : σh = upd (τ1) (0 + k) ((τ1) (0 + (k + 4))) := eσh
            have ht5002_σh : σh 5002 = ((flS node false true ls (rnw μ node) d lo).2.2.2.1) := by rw [eσh_a, upd_ne (by first | omega | (simp only [vb] at *; omega))]; first | exact ht5002_τ1 | assumption
            have ht5003_σh : σh 5003 = (nI ((flS node false true ls (rnw μ node) d lo).2.1)) := by rw [eσh_a, upd_ne (by first | omega | (simp only [vb] at *; omega))]; first | exact ht5003_τ1 | assumption
            have hcRLs_σh : RLs σh (flS node false true ls (rnw μ node) d lo).2.2.2.2.2.1 ls (flS node false true ls (rnw μ node) d lo).2.2.2.2.2.2 := by rw [eσh_a]; exact RLs.fr hcRLs_τ1 (upd_ne (by omega)) (upd_ne (by omega)) (upd_ne (by omega))
            have hcFR_σh : ∀ a, (528 ≤ a ∧ (a < 4900 ∨ a = 4901 ∨ 6000 ≤ a)) → σh a = σ a := by intro a ha; exact Eq.trans (b := (τ1) a) (by rw [eσh_a, upd_ne (by first | omega | (simp only [vb] at *; omega))]) (hcFR_τ1 a ha)
            have hvσh : vw 0 σh = μz := by rw [eσh_a, vw_out (by omega)]; first | exact hvτ1 | assumption
            refine g_iincN (b := 1) (L' := [(0, .ref (w.1 0)), (1, .int (nI node)), (2, .int (nI (k + 1)))]) h dX12_notices_114 2 rfl rfl (by decide) (by decide) rfl ?_
            refine g_goto h dX12_notices_117 ?_
            exact ih95 (k + 1) σh (by omega) (by exact sh_more hsh hsk eσh) (by exact sk_more hk.1 hsk eσh) (by first | exact hvσh | assumption | fail | fail) (by first | exact ht5002_σh | assumption | fail | fail) (by first | exact ht5003_σh | assumption | fail | fail) (by first | exact hcRLs_σh | assumption | fail | fail) (by first | exact hcFR_σh | assumption | fail | fail) (by omega)
      exact lp95 (_) 464 σs (by omega) (by intro a h1 h2; omega) (by intro a _; rfl) (by first | exact hvσs | assumption | fail | fail) (by first | exact ht5002_σs | assumption | fail | fail) (by first | exact ht5003_σs | assumption | fail | fail) (by first | exact hcRLs_σs | assumption | fail | fail) (by first | exact hcFR_σs | assumption | fail | fail) (Nat.lt_succ_self _)
  refine g_aload_n h dX12_notices_0 0 rfl ?_
  refine g_bipush h dX12_notices_1 (by decide) ?_
  refine g_iload_n h dX12_notices_3 1 rfl ?_
  refine g_iaddN h dX12_notices_4  ?_
  refine g_cvpi (rest := []) h (r_of hW (72 + node) μ (by assumption) (by omega)) lX12_of mX12_61 (Nat.lt_of_lt_of_le (by decide) (Nat.le_refl _)) (by decide) sc_0 rfl rfl rfl rfl dX12_notices_5 ?_
  refine g_aload_n h dX12_notices_8 0 rfl ?_
  refine g_bipush h dX12_notices_9 (by decide) ?_
  refine g_iload_n h dX12_notices_11 1 rfl ?_
  refine g_iaddN h dX12_notices_12  ?_
  refine g_cvpi (rest := [.int (μ (72 + node))]) h (r_of hW (40 + node) μ (by assumption) (by omega)) lX12_of mX12_61 (Nat.lt_of_lt_of_le (by decide) (Nat.le_refl _)) (by decide) sc_0 rfl rfl rfl rfl dX12_notices_13 ?_
  refine g_icmp_eq h dX12_notices_16 (fun c16 => ?_) (fun c16 => ?_)
  ·
    refine g_aload_n h dX12_notices_40 0 rfl ?_
    refine g_bipush h dX12_notices_41 (by decide) ?_
    refine g_iload_n h dX12_notices_43 1 rfl ?_
    refine g_iaddN h dX12_notices_44  ?_
    refine g_aload_n h dX12_notices_45 0 rfl ?_
    refine g_bipush h dX12_notices_46 (by decide) ?_
    refine g_iload_n h dX12_notices_48 1 rfl ?_
    refine g_iaddN h dX12_notices_49  ?_
    refine g_cvpi (rest := [.int (nI (40 + node)), .ref (w.1 0)]) h (r_of hW (72 + node) μ (by assumption) (by omega)) lX12_of mX12_61 (Nat.lt_of_lt_of_le (by decide) (Nat.le_refl _)) (by decide) sc_0 rfl rfl rfl rfl dX12_notices_50 ?_
    refine g_cvv (rest := []) h (r_puts hW (40 + node) (μ (72 + node)) (by omega)) lX12_puts mX12_57 (Nat.lt_of_lt_of_le (by decide) (Nat.le_refl _)) (by decide) sc_0 rfl rfl rfl rfl dX12_notices_53 (fun σ_10 eσ_10 => ?_)
    have eσ_10_a : σ_10 = upd σ (0 + (40 + node)) (μ (72 + node)) := eσ_10
    have hcRLs_σ_10 : RLs σ_10 d ls lo := by rw [eσ_10_a]; exact RLs.fr hcRLs_σ (upd_ne (by omega)) (upd_ne (by omega)) (upd_ne (by omega))
    have hcLR_σ_10 : LR 0 σ_10 nt g := by rw [eσ_10_a]; exact LR.fr hcLR_σ (fun a ha => upd_ne (by first | omega | (simp only [vb] at *; omega)))
    have hcFR_σ_10 : ∀ a, (528 ≤ a ∧ (a < 4900 ∨ a = 4901 ∨ 6000 ≤ a)) → σ_10 a = σ a := by intro a ha; exact Eq.trans (b := σ a) (by rw [eσ_10_a, upd_ne (by first | omega | (simp only [vb] at *; omega))]) (hcFR_σ a ha)
    obtain ⟨μ_11, eμ_11⟩ : ∃ μ_11 : Nat → Int32, μ_11 = upd μ (40 + node) (μ (72 + node)) := ⟨_, rfl⟩
    have hvσ_10 : vw 0 σ_10 = μ_11 := by rw [eσ_10_a, eμ_11, vw_in (by omega)]; congr 1
    exact J56 σ_10 (by rw [hvσ_10]; simp [rnw, eμ_11, c16]; try rfl) (by first | exact hcRLs_σ_10 | assumption | fail | fail) (by first | exact hcLR_σ_10 | assumption | fail | fail) (by first | exact hcFR_σ_10 | assumption | fail | fail)
  ·
    refine g_aload_n h dX12_notices_19 0 rfl ?_
    refine g_bipush h dX12_notices_20 (by decide) ?_
    refine g_iload_n h dX12_notices_22 1 rfl ?_
    refine g_iaddN h dX12_notices_23  ?_
    refine g_aload_n h dX12_notices_24 0 rfl ?_
    refine g_bipush h dX12_notices_25 (by decide) ?_
    refine g_iload_n h dX12_notices_27 1 rfl ?_
    refine g_iaddN h dX12_notices_28  ?_
    refine g_cvpi (rest := [.int (nI (32 + node)), .ref (w.1 0)]) h (r_of hW (32 + node) μ (by assumption) (by omega)) lX12_of mX12_61 (Nat.lt_of_lt_of_le (by decide) (Nat.le_refl _)) (by decide) sc_0 rfl rfl rfl rfl dX12_notices_29 ?_
    refine g_top (y := nI (nA μ (32 + node))) (mi_32 (by assumption) (by omega)) ?_
    have b9_29 : nA μ (32 + node) < 16 := mb_32 (by assumption) (by omega)
    refine g_iconst h dX12_notices_32 (by decide) ?_
    refine g_iaddN h dX12_notices_33  ?_
    refine g_bipush h dX12_notices_34 (by decide) ?_
    refine g_iand h dX12_notices_36  ?_
    refine g_top (y := (nI ((nA μ (32 + node) + 1) % 16))) (and15 _ (by omega)) ?_
    refine g_cvv (rest := []) h (r_puts hW (32 + node) (nI ((nA μ (32 + node) + 1) % 16)) (by omega)) lX12_puts mX12_57 (Nat.lt_of_lt_of_le (by decide) (Nat.le_refl _)) (by decide) sc_0 rfl rfl rfl rfl dX12_notices_37 (fun σ_12 eσ_12 => ?_)
    have eσ_12_a : σ_12 = upd σ (0 + (32 + node)) (nI ((nA μ (32 + node) + 1) % 16)) := eσ_12
    have hcRLs_σ_12 : RLs σ_12 d ls lo := by rw [eσ_12_a]; exact RLs.fr hcRLs_σ (upd_ne (by omega)) (upd_ne (by omega)) (upd_ne (by omega))
    have hcLR_σ_12 : LR 0 σ_12 nt g := by rw [eσ_12_a]; exact LR.fr hcLR_σ (fun a ha => upd_ne (by first | omega | (simp only [vb] at *; omega)))
    have hcFR_σ_12 : ∀ a, (528 ≤ a ∧ (a < 4900 ∨ a = 4901 ∨ 6000 ≤ a)) → σ_12 a = σ a := by intro a ha; exact Eq.trans (b := σ a) (by rw [eσ_12_a, upd_ne (by first | omega | (simp only [vb] at *; omega))]) (hcFR_σ a ha)
    obtain ⟨μ_13, eμ_13⟩ : ∃ μ_13 : Nat → Int32, μ_13 = upd μ (32 + node) (nI ((nA μ (32 + node) + 1) % 16)) := ⟨_, rfl⟩
    have hvσ_12 : vw 0 σ_12 = μ_13 := by rw [eσ_12_a, eμ_13, vw_in (by omega)]; congr 1
    refine g_aload_n h dX12_notices_40 0 rfl ?_
    refine g_bipush h dX12_notices_41 (by decide) ?_
    refine g_iload_n h dX12_notices_43 1 rfl ?_
    refine g_iaddN h dX12_notices_44  ?_
    refine g_aload_n h dX12_notices_45 0 rfl ?_
    refine g_bipush h dX12_notices_46 (by decide) ?_
    refine g_iload_n h dX12_notices_48 1 rfl ?_
    refine g_iaddN h dX12_notices_49  ?_
    refine g_cvpi (rest := [.int (nI (40 + node)), .ref (w.1 0)]) h (r_of hW (72 + node) μ_13 (by assumption) (by omega)) lX12_of mX12_61 (Nat.lt_of_lt_of_le (by decide) (Nat.le_refl _)) (by decide) sc_0 rfl rfl rfl rfl dX12_notices_50 ?_
    refine g_top (y := μ (72 + node)) (by rw [eμ_13, upd_ne (by first | omega | (simp only [vb] at *; omega))]) ?_
    refine g_cvv (rest := []) h (r_puts hW (40 + node) (μ (72 + node)) (by omega)) lX12_puts mX12_57 (Nat.lt_of_lt_of_le (by decide) (Nat.le_refl _)) (by decide) sc_0 rfl rfl rfl rfl dX12_notices_53 (fun σ_14 eσ_14 => ?_)
    have eσ_14_a : σ_14 = upd σ_12 (0 + (40 + node)) (μ (72 + node)) := eσ_14
    have hcRLs_σ_14 : RLs σ_14 d ls lo := by rw [eσ_14_a]; exact RLs.fr hcRLs_σ_12 (upd_ne (by omega)) (upd_ne (by omega)) (upd_ne (by omega))
    have hcLR_σ_14 : LR 0 σ_14 nt g := by rw [eσ_14_a]; exact LR.fr hcLR_σ_12 (fun a ha => upd_ne (by first | omega | (simp only [vb] at *; omega)))
    have hcFR_σ_14 : ∀ a, (528 ≤ a ∧ (a < 4900 ∨ a = 4901 ∨ 6000 ≤ a)) → σ_14 a = σ a := by intro a ha; exact Eq.trans (b := σ_12 a) (by rw [eσ_14_a, upd_ne (by first | omega | (simp only [vb] at *; omega))]) (hcFR_σ_12 a ha)
    obtain ⟨μ_15, eμ_15⟩ : ∃ μ_15 : Nat → Int32, μ_15 = upd μ_13 (40 + node) (μ (72 + node)) := ⟨_, rfl⟩
    have hvσ_14 : vw 0 σ_14 = μ_15 := by rw [eσ_14_a, eμ_15, vw_in (by omega)]; congr 1
    exact J56 σ_14 (by rw [hvσ_14]; simp [rnw, eμ_15, eμ_13, c16]; try rfl) (by first | exact hcRLs_σ_14 | assumption | fail | fail) (by first | exact hcLR_σ_14 | assumption | fail | fail) (by first | exact hcFR_σ_14 | assumption | fail | fail)
