theorem rw_more2 {σ σ' : Mem} {rr : Nat → Nat} {many i : Nat} (e : σ' = upd σ (5140 + many) (nI i)) (h : ∀ k, k < many → σ' (5140 + k) = nI (rr k)) : ∀ k, k < many + 1 → σ' (5140 + k) = nI (ru rr many i k) := fun k hk => by
  by_cases e9 : k = many
  · subst e9
    rw [ru_eq, e]
    exact upd_eq
  · rw [ru_ne e9]
    exact h k (by omega)

set_option maxRecDepth 100000 in
set_option maxHeartbeats 4000000 in
theorem r_floods {l : Launch} {w : Wd} (hW : Wi w) {σ : Mem} (node : Nat) (bl td : Bool) (μ : Nat → Int32) (d ls : Nat) (lo : Int32) (hv : vw 0 σ = μ) (hI : MI μ) (hn : node < nN μ) (hon : tb (μ 1) node = true) (hcRLs_σ : RLs σ d ls lo) : MC l w qX12_floods 3 [.ref (w.1 0), .int (nI node), .int (b2i bl), .int (b2i td)] σ none (fun σ' => (vw 0 σ' = (flS node bl td ls μ d lo).2.2.2.2.1) ∧ (σ' 5002 = ((flS node bl td ls μ d lo).2.2.2.1)) ∧ (σ' 5003 = (nI ((flS node bl td ls μ d lo).2.1))) ∧ (RLs σ' (flS node bl td ls μ d lo).2.2.2.2.2.1 ls (flS node bl td ls μ d lo).2.2.2.2.2.2) ∧ (∀ a, (464 ≤ a ∧ (a < 4900 ∨ a = 4901 ∨ 4903 ≤ a) ∧ (a < 5001 ∨ 5004 ≤ a) ∧ (a < 5140 ∨ 5148 ≤ a) ∨ a = 10) → σ' a = σ a)) := by
  refine MC.of hW (by decide +kernel) (Nat.le_of_ble_eq_true rfl) (fun X h hQ hnm => ?_)
  have h : Fx X w cX12_floods 7 RX12 3 := h
  have hQ : Qx X w none none (fun σ' => (vw 0 σ' = (flS node bl td ls μ d lo).2.2.2.2.1) ∧ (σ' 5002 = ((flS node bl td ls μ d lo).2.2.2.1)) ∧ (σ' 5003 = (nI ((flS node bl td ls μ d lo).2.1))) ∧ (RLs σ' (flS node bl td ls μ d lo).2.2.2.2.2.1 ls (flS node bl td ls μ d lo).2.2.2.2.2.2) ∧ (∀ a, (464 ≤ a ∧ (a < 4900 ∨ a = 4901 ∨ 4903 ≤ a) ∧ (a < 5001 ∨ 5004 ≤ a) ∧ (a < 5140 ∨ 5148 ≤ a) ∨ a = 10) → σ' a = σ a)) := hQ
  have hN8 := mi_8 hI
  have hcFR_σ : ∀ a, (464 ≤ a ∧ (a < 4900 ∨ a = 4901 ∨ 4903 ≤ a) ∧ (a < 5001 ∨ 5004 ≤ a) ∧ (a < 5140 ∨ 5148 ≤ a) ∨ a = 10) → σ a = σ a := fun _ _ => rfl
  show G X w 7 0 [(0, .ref (w.1 0)), (1, .int (nI node)), (2, .int (b2i bl)), (3, .int (b2i td))] [] σ
  refine g_iconst h dX12_floods_0 (by decide) ?_
  refine g_istore (L' := [(0, .ref (w.1 0)), (1, .int (nI node)), (2, .int (b2i bl)), (3, .int (b2i td)), (4, .int (nI 1))]) h dX12_floods_1 rfl (by decide) rfl ?_
  refine g_aload_n h dX12_floods_3 0 rfl ?_
  refine g_getr h dX12_floods_4 gX12_25 sc_0 rfl ?_
  refine g_iconst h dX12_floods_7 (by decide) ?_
  refine g_iload_n h dX12_floods_8 1 rfl ?_
  refine g_iast h dX12_floods_9 sc_6 (by omega) ?_
  refine g_nm (fun σi eσi => ?_)
  have eσi : σi = upd σ (5140 + 0) (nI node) := eσi
  have hcRLs_σi : RLs σi d ls lo := by rw [eσi]; exact RLs.fr hcRLs_σ (upd_ne (by omega)) (upd_ne (by omega)) (upd_ne (by omega))
  have hcFR_σi : ∀ a, (464 ≤ a ∧ (a < 4900 ∨ a = 4901 ∨ 4903 ≤ a) ∧ (a < 5001 ∨ 5004 ≤ a) ∧ (a < 5140 ∨ 5148 ≤ a) ∨ a = 10) → σi a = σ a := by intro a ha; exact Eq.trans (b := σ a) (by rw [eσi, upd_ne (by first | omega | (simp only [vb] at *; omega))]) (hcFR_σ a ha)
  have hvσi : vw 0 σi = μ := by rw [eσi, vw_out (by omega)]; first | exact hv | assumption
  refine g_aload_n h dX12_floods_10 0 rfl ?_
  refine g_iconst h dX12_floods_11 (by decide) ?_
  refine g_iload_n h dX12_floods_12 1 rfl ?_
  refine g_ishl h dX12_floods_13  ?_
  refine g_top (y := bt1 node) rfl ?_
  refine g_puti h dX12_floods_14 pX12_144 sc_0 rfl ?_
  refine g_nm (fun σj eσj => ?_)
  have eσj : σj = upd σi 5001 (bt1 node) := eσj
  have ht5001_σj : σj 5001 = (bt1 node) := by rw [eσj]; exact upd_eq
  have hcRLs_σj : RLs σj d ls lo := by rw [eσj]; exact RLs.fr hcRLs_σi (upd_ne (by omega)) (upd_ne (by omega)) (upd_ne (by omega))
  have hcFR_σj : ∀ a, (464 ≤ a ∧ (a < 4900 ∨ a = 4901 ∨ 4903 ≤ a) ∧ (a < 5001 ∨ 5004 ≤ a) ∧ (a < 5140 ∨ 5148 ≤ a) ∨ a = 10) → σj a = σ a := by intro a ha; exact Eq.trans (b := σi a) (by rw [eσj, upd_ne (by first | omega | (simp only [vb] at *; omega))]) (hcFR_σi a ha)
  have hvσj : vw 0 σj = μ := by rw [eσj, vw_out (by omega)]; first | exact hvσi | assumption
  refine g_aload_n h dX12_floods_17 0 rfl ?_
  refine g_iconst h dX12_floods_18 (by decide) ?_
  refine g_puti h dX12_floods_19 pX12_147 sc_0 rfl ?_
  refine g_nm (fun σk eσk => ?_)
  have eσk : σk = upd σj 5002 (nI 0) := eσk
  have ht5001_σk : σk 5001 = (bt1 node) := by rw [eσk, upd_ne (by first | omega | (simp only [vb] at *; omega))]; first | exact ht5001_σj | assumption
  have ht5002_σk : σk 5002 = (nI 0) := by rw [eσk]; exact upd_eq
  have hcRLs_σk : RLs σk d ls lo := by rw [eσk]; exact RLs.fr hcRLs_σj (upd_ne (by omega)) (upd_ne (by omega)) (upd_ne (by omega))
  have hcFR_σk : ∀ a, (464 ≤ a ∧ (a < 4900 ∨ a = 4901 ∨ 4903 ≤ a) ∧ (a < 5001 ∨ 5004 ≤ a) ∧ (a < 5140 ∨ 5148 ≤ a) ∨ a = 10) → σk a = σ a := by intro a ha; exact Eq.trans (b := σj a) (by rw [eσk, upd_ne (by first | omega | (simp only [vb] at *; omega))]) (hcFR_σj a ha)
  have hvσk : vw 0 σk = μ := by rw [eσk, vw_out (by omega)]; first | exact hvσj | assumption
  refine g_aload_n h dX12_floods_22 0 rfl ?_
  refine g_iconst h dX12_floods_23 (by decide) ?_
  refine g_puti h dX12_floods_24 pX12_150 sc_0 rfl ?_
  refine g_nm (fun σl eσl => ?_)
  have eσl : σl = upd σk 5003 (nI 0) := eσl
  have ht5001_σl : σl 5001 = (bt1 node) := by rw [eσl, upd_ne (by first | omega | (simp only [vb] at *; omega))]; first | exact ht5001_σk | assumption
  have ht5002_σl : σl 5002 = (nI 0) := by rw [eσl, upd_ne (by first | omega | (simp only [vb] at *; omega))]; first | exact ht5002_σk | assumption
  have ht5003_σl : σl 5003 = (nI 0) := by rw [eσl]; exact upd_eq
  have hcRLs_σl : RLs σl d ls lo := by rw [eσl]; exact RLs.fr hcRLs_σk (upd_ne (by omega)) (upd_ne (by omega)) (upd_ne (by omega))
  have hcFR_σl : ∀ a, (464 ≤ a ∧ (a < 4900 ∨ a = 4901 ∨ 4903 ≤ a) ∧ (a < 5001 ∨ 5004 ≤ a) ∧ (a < 5140 ∨ 5148 ≤ a) ∨ a = 10) → σl a = σ a := by intro a ha; exact Eq.trans (b := σk a) (by rw [eσl, upd_ne (by first | omega | (simp only [vb] at *; omega))]) (hcFR_σk a ha)
  have hvσl : vw 0 σl = μ := by rw [eσl, vw_out (by omega)]; first | exact hvσk | assumption
  have lp27 : ∀ (k9 : Nat) (many1 : Nat) (sd1 : Int32) (rg1 : Int32) (n : Nat) (μ1 : Nat → Int32) (d1 : Nat) (lo1 : Int32) (τ : Mem) (rr1 : Nat → Nat), (flW node bl td ls (nN μ) (fun _ => node, 1, bt1 node, nI 0, μ, d, lo) n = (rr1, many1, sd1, rg1 &&& nots (bt1 node), μ1, d1, lo1)) → (n ≤ many1) → (vw 0 τ = μ1) → (τ 5001 = sd1) → (τ 5002 = rg1) → (τ 5003 = (nI n)) → (RLs τ d1 ls lo1) → (∀ a, (464 ≤ a ∧ (a < 4900 ∨ a = 4901 ∨ 4903 ≤ a) ∧ (a < 5001 ∨ 5004 ≤ a) ∧ (a < 5140 ∨ 5148 ≤ a) ∨ a = 10) → τ a = σ a) → (∀ k, k < many1 → τ (5140 + k) = nI (rr1 k)) → 8 - n < k9 → G X w 7 27 [(0, .ref (w.1 0)), (1, .int (nI node)), (2, .int (b2i bl)), (3, .int (b2i td)), (4, .int (nI many1))] [] (τ) := by
    intro k9
    induction k9 with
    | zero => intro many1 sd1 rg1 n μ1 d1 lo1 τ rr1 hT1 hnm hvτ ht5001_τ ht5002_τ ht5003_τ hcRLs_τ hcFR_τ hcRW_τ hm9; exact absurd hm9 (Nat.not_lt_zero _)
    | succ k9 ih27 =>
      intro many1 sd1 rg1 n μ1 d1 lo1 τ rr1 hT1 hnm hvτ ht5001_τ ht5002_τ ht5003_τ hcRLs_τ hcFR_τ hcRW_τ hm27
      have hW1 : FW μ node (rr1, many1, sd1, rg1 &&& nots (bt1 node), μ1, d1, lo1) := by rw [← hT1]; exact (FW.ini hI hn hon).sent hI hn n
      have hI1 : MI μ1 := hW1.1
      have hF1 : ∀ a, a < 272 → a ≠ 9 → μ1 a = μ a := hW1.2.1
      have hM1 : many1 = pc sd1 := hW1.2.2.1
      have hP1 := pc_le sd1
      have hR1 : ∀ k, k < many1 → rr1 k < nN μ ∧ tb (μ 1) (rr1 k) = true := hW1.2.2.2.2.1
      have hN1 : nN μ1 = nN μ := by unfold nN; rw [hF1 0 (by omega) (by omega)]
      refine g_aload_n h dX12_floods_27 0 rfl ?_
      refine g_geti h dX12_floods_28 gX12_150 sc_0 rfl ?_
      refine g_top (y := (nI n)) (by first | exact ht5003_τ | assumption) ?_
      refine g_iload h dX12_floods_31 4 rfl ?_
      refine g_icmpN_ge h dX12_floods_33 (by omega) (by omega) (fun c33 => ?_) (fun c33 => ?_)
      ·
        have hE : flS node bl td ls μ d lo = (rr1, many1, sd1, rg1 &&& nots (bt1 node), μ1, d1, lo1) := by rw [← flW_8 (n := n) (by omega) (by rw [hT1]; dsimp only; omega), hT1]
        refine g_aload_n h dX12_floods_220 0 rfl ?_
        refine g_dup h dX12_floods_221 rfl ?_
        refine g_geti h dX12_floods_222 gX12_147 sc_0 rfl ?_
        refine g_top (y := rg1) (by first | exact ht5002_τ | assumption) ?_
        refine g_iconst h dX12_floods_225 (by decide) ?_
        refine g_iload_n h dX12_floods_226 1 rfl ?_
        refine g_ishl h dX12_floods_227  ?_
        refine g_top (y := bt1 node) rfl ?_
        refine g_iconstv h dX12_floods_228 (v := (-1)) (by decide) ?_
        refine g_ixor h dX12_floods_229  ?_
        refine g_top (y := nots (bt1 node)) rfl ?_
        refine g_iand h dX12_floods_230  ?_
        refine g_puti h dX12_floods_231 pX12_147 sc_0 rfl ?_
        refine g_nm (fun σ_1 eσ_1 => ?_)
        have eσ_1 : σ_1 = upd (τ) 5002 (rg1 &&& (nots (bt1 node))) := eσ_1
        have ht5001_σ_1 : σ_1 5001 = sd1 := by rw [eσ_1, upd_ne (by first | omega | (simp only [vb] at *; omega))]; first | exact ht5001_τ | assumption
        have ht5002_σ_1 : σ_1 5002 = (rg1 &&& (nots (bt1 node))) := by rw [eσ_1]; exact upd_eq
        have ht5003_σ_1 : σ_1 5003 = (nI n) := by rw [eσ_1, upd_ne (by first | omega | (simp only [vb] at *; omega))]; first | exact ht5003_τ | assumption
        have hcRLs_σ_1 : RLs σ_1 d1 ls lo1 := by rw [eσ_1]; exact RLs.fr hcRLs_τ (upd_ne (by omega)) (upd_ne (by omega)) (upd_ne (by omega))
        have hcFR_σ_1 : ∀ a, (464 ≤ a ∧ (a < 4900 ∨ a = 4901 ∨ 4903 ≤ a) ∧ (a < 5001 ∨ 5004 ≤ a) ∧ (a < 5140 ∨ 5148 ≤ a) ∨ a = 10) → σ_1 a = σ a := by intro a ha; exact Eq.trans (b := (τ) a) (by rw [eσ_1, upd_ne (by first | omega | (simp only [vb] at *; omega))]) (hcFR_τ a ha)
        have hcRW_σ_1 : ∀ k, k < many1 → σ_1 (5140 + k) = nI (rr1 k) := by intro k hk; rw [eσ_1, upd_ne (by omega)]; exact hcRW_τ k hk
        have hvσ_1 : vw 0 σ_1 = μ1 := by rw [eσ_1, vw_out (by omega)]; first | exact hvτ | assumption
        exact g_vret h hQ dX12_floods_234 rfl (by exact ⟨(by simp only [hE]; exact hvσ_1), (by simp only [hE]; exact ht5002_σ_1), (by simp only [hE]; rw [show many1 = n from by omega]; exact ht5003_σ_1), (by simp only [hE]; exact hcRLs_σ_1), (by exact hcFR_σ_1)⟩)
      ·
        refine g_aload_n h dX12_floods_36 0 rfl ?_
        refine g_getr h dX12_floods_37 gX12_25 sc_0 rfl ?_
        refine g_aload_n h dX12_floods_40 0 rfl ?_
        refine g_geti h dX12_floods_41 gX12_150 sc_0 rfl ?_
        refine g_top (y := (nI n)) (by first | exact ht5003_τ | assumption) ?_
        refine g_iald h dX12_floods_44 sc_6 (by omega) ?_
        refine g_top (y := (nI (rr1 n))) (hcRW_τ n (by omega)) ?_
        refine g_istore (L' := [(0, .ref (w.1 0)), (1, .int (nI node)), (2, .int (b2i bl)), (3, .int (b2i td)), (4, .int (nI many1)), (5, .int (nI (rr1 n)))]) h dX12_floods_45 rfl (by decide) rfl ?_
        refine g_aload_n h dX12_floods_47 0 rfl ?_
        refine g_dup h dX12_floods_48 rfl ?_
        refine g_geti h dX12_floods_49 gX12_150 sc_0 rfl ?_
        refine g_top (y := (nI n)) (by first | exact ht5003_τ | assumption) ?_
        refine g_iconst h dX12_floods_52 (by decide) ?_
        refine g_iaddN h dX12_floods_53  ?_
        refine g_puti h dX12_floods_54 pX12_150 sc_0 rfl ?_
        refine g_nm (fun σ_2 eσ_2 => ?_)
        have eσ_2 : σ_2 = upd (τ) 5003 (nI (n + 1)) := eσ_2
        have ht5001_σ_2 : σ_2 5001 = sd1 := by rw [eσ_2, upd_ne (by first | omega | (simp only [vb] at *; omega))]; first | exact ht5001_τ | assumption
        have ht5002_σ_2 : σ_2 5002 = rg1 := by rw [eσ_2, upd_ne (by first | omega | (simp only [vb] at *; omega))]; first | exact ht5002_τ | assumption
        have ht5003_σ_2 : σ_2 5003 = (nI (n + 1)) := by rw [eσ_2]; exact upd_eq
        have hcRLs_σ_2 : RLs σ_2 d1 ls lo1 := by rw [eσ_2]; exact RLs.fr hcRLs_τ (upd_ne (by omega)) (upd_ne (by omega)) (upd_ne (by omega))
        have hcFR_σ_2 : ∀ a, (464 ≤ a ∧ (a < 4900 ∨ a = 4901 ∨ 4903 ≤ a) ∧ (a < 5001 ∨ 5004 ≤ a) ∧ (a < 5140 ∨ 5148 ≤ a) ∨ a = 10) → σ_2 a = σ a := by intro a ha; exact Eq.trans (b := (τ) a) (by rw [eσ_2, upd_ne (by first | omega | (simp only [vb] at *; omega))]) (hcFR_τ a ha)
        have hcRW_σ_2 : ∀ k, k < many1 → σ_2 (5140 + k) = nI (rr1 k) := by intro k hk; rw [eσ_2, upd_ne (by omega)]; exact hcRW_τ k hk
        have hvσ_2 : vw 0 σ_2 = μ1 := by rw [eσ_2, vw_out (by omega)]; first | exact hvτ | assumption
        refine g_iconst h dX12_floods_57 (by decide) ?_
        refine g_istore (L' := [(0, .ref (w.1 0)), (1, .int (nI node)), (2, .int (b2i bl)), (3, .int (b2i td)), (4, .int (nI many1)), (5, .int (nI (rr1 n))), (6, .int (nI 0))]) h dX12_floods_58 rfl (by decide) rfl ?_
        have lp60 : ∀ (k9 : Nat) (i : Nat) (many2 : Nat) (sd2 : Int32) (rg2 : Int32) (μ2 : Nat → Int32) (d2 : Nat) (lo2 : Int32) (τ2 : Mem) (rr2 : Nat → Nat), (flI node bl td ls (rr1 n) i (rr1, many1, sd1, rg1 &&& nots (bt1 node), μ1, d1, lo1) = (rr2, many2, sd2, rg2 &&& nots (bt1 node), μ2, d2, lo2)) → (i ≤ nN μ) → (many1 ≤ many2) → (vw 0 τ2 = μ2) → (τ2 5001 = sd2) → (τ2 5002 = rg2) → (τ2 5003 = (nI (n + 1))) → (RLs τ2 d2 ls lo2) → (∀ a, (464 ≤ a ∧ (a < 4900 ∨ a = 4901 ∨ 4903 ≤ a) ∧ (a < 5001 ∨ 5004 ≤ a) ∧ (a < 5140 ∨ 5148 ≤ a) ∨ a = 10) → τ2 a = σ a) → (∀ k, k < many2 → τ2 (5140 + k) = nI (rr2 k)) → nN μ - i < k9 → G X w 7 60 [(0, .ref (w.1 0)), (1, .int (nI node)), (2, .int (b2i bl)), (3, .int (b2i td)), (4, .int (nI many2)), (5, .int (nI (rr1 n))), (6, .int (nI i))] [] (τ2) := by
          intro k9
          induction k9 with
          | zero => intro i many2 sd2 rg2 μ2 d2 lo2 τ2 rr2 hT2 hi hmm hvτ2 ht5001_τ2 ht5002_τ2 ht5003_τ2 hcRLs_τ2 hcFR_τ2 hcRW_τ2 hm9; exact absurd hm9 (Nat.not_lt_zero _)
          | succ k9 ih60 =>
            intro i many2 sd2 rg2 μ2 d2 lo2 τ2 rr2 hT2 hi hmm hvτ2 ht5001_τ2 ht5002_τ2 ht5003_τ2 hcRLs_τ2 hcFR_τ2 hcRW_τ2 hm60
            have hW2 : FW μ node (rr2, many2, sd2, rg2 &&& nots (bt1 node), μ2, d2, lo2) := by rw [← hT2]; exact hW1.row hI hn (hR1 n c33).1 i hi
            have hI2 : MI μ2 := hW2.1
            have hF2 : ∀ a, a < 272 → a ≠ 9 → μ2 a = μ a := hW2.2.1
            have hM2 : many2 = pc sd2 := hW2.2.2.1
            have hP2 := pc_le sd2
            have hR2 : ∀ k, k < many2 → rr2 k < nN μ ∧ tb (μ 1) (rr2 k) = true := hW2.2.2.2.2.1
            have hN2 : nN μ2 = nN μ := by unfold nN; rw [hF2 0 (by omega) (by omega)]
            have hof : tb (μ2 1) (rr1 n) = true := by rw [hF2 1 (by omega) (by omega)]; exact (hR1 n c33).2
            have hf8 := (hR1 n c33).1
            have hn8 : node < 8 := by omega
            refine g_iload h dX12_floods_60 6 rfl ?_
            refine g_aload_n h dX12_floods_62 0 rfl ?_
            refine g_iconst h dX12_floods_63 (by decide) ?_
            refine g_cvpi (rest := [.int (nI i)]) h (r_of hW 0 μ2 (by assumption) (by omega)) lX12_of mX12_61 (Nat.lt_of_lt_of_le (by decide) (Nat.le_refl _)) (by decide) sc_0 rfl rfl rfl rfl dX12_floods_64 ?_
            refine g_top (y := nI (nN μ2)) (mi_0 (by assumption)) ?_
            refine g_icmpN_ge h dX12_floods_67 (by omega) (by omega) (fun c67 => ?_) (fun c67 => ?_)
            ·
              refine g_goto h dX12_floods_217 ?_
              exact g_sub [0, 1, 2, 3, 4] rfl (ih27 many2 sd2 rg2 (n + 1) μ2 d2 lo2 (τ2) rr2 (by simp only [flW, hT1]; rw [if_pos (by omega), ← hT2, show i = nN μ from by omega]) (by omega) (by first | exact hvτ2 | assumption | fail | fail) (by first | exact ht5001_τ2 | assumption | fail | fail) (by first | exact ht5002_τ2 | assumption | fail | fail) (by first | exact ht5003_τ2 | assumption | fail | fail) (by first | exact hcRLs_τ2 | assumption | fail | fail) (by first | exact hcFR_τ2 | assumption | fail | fail) (by assumption) (by omega))
            ·
              refine g_aload_n h dX12_floods_70 0 rfl ?_
              refine g_iload h dX12_floods_71 6 rfl ?_
              refine g_iload h dX12_floods_73 5 rfl ?_
              refine g_cvpi (rest := []) h (r_mayGet hW i (rr1 n) μ2 (by first | exact hvτ2 | assumption | fail) (by assumption) (by omega) (by omega) (by omega)) lX12_mayGet mX12_153 (Nat.lt_of_lt_of_le (by decide) (Nat.le_refl _)) (by decide) sc_0 rfl rfl rfl rfl dX12_floods_75 ?_
              have hi8 : i < 8 := by omega
              refine g_ifB_eq h dX12_floods_78 (fun c78 => ?_) (fun c78 => ?_)
              ·
                refine g_iincN (b := 1) (L' := [(0, .ref (w.1 0)), (1, .int (nI node)), (2, .int (b2i bl)), (3, .int (b2i td)), (4, .int (nI many2)), (5, .int (nI (rr1 n))), (6, .int (nI (i + 1)))]) h dX12_floods_211 6 rfl rfl (by decide) (by decide) rfl ?_
                refine g_goto h dX12_floods_214 ?_
                exact ih60 (i + 1) many2 sd2 rg2 μ2 d2 lo2 (τ2) rr2 (by rw [flI, hT2]; simp [fl1, got_w hn8 hi8, got_c hn8 hi8, c33, c67, c78, Nat.add_zero]) (by omega) (by omega) (by first | exact hvτ2 | assumption | fail | fail) (by first | exact ht5001_τ2 | assumption | fail | fail) (by first | exact ht5002_τ2 | assumption | fail | fail) (by first | exact ht5003_τ2 | assumption | fail | fail) (by first | exact hcRLs_τ2 | assumption | fail | fail) (by first | exact hcFR_τ2 | assumption | fail | fail) (by first | assumption | exact rw_more2 eσr hcRW_σr | fail | fail) (by omega)
              ·
                refine g_aload_n h dX12_floods_81 0 rfl ?_
                refine g_cvi (rest := []) h (r_isLost hW d2 ls lo2 (by first | exact hcRLs_τ2 | assumption | fail)) lX12_isLost mX12_118 (Nat.lt_of_lt_of_le (by decide) (Nat.le_refl _)) (by decide) sc_0 rfl rfl rfl rfl dX12_floods_82 (fun σ_3 eσ_3 => ?_)
                obtain ⟨eσ_3_a, eσ_3_b⟩ := eσ_3
                have eσ_3_a : RLs σ_3 (drw d2) ls (lsN d2 ls lo2) := eσ_3_a
                have eσ_3_b : ∀ a, (a < 4900 ∨ a = 4901 ∨ 4903 ≤ a) → σ_3 a = (τ2) a := eσ_3_b
                have ht5001_σ_3 : σ_3 5001 = sd2 := by rw [eσ_3_b _ (by first | omega | (simp only [vb] at *; omega))]; first | exact ht5001_τ2 | assumption
                have ht5002_σ_3 : σ_3 5002 = rg2 := by rw [eσ_3_b _ (by first | omega | (simp only [vb] at *; omega))]; first | exact ht5002_τ2 | assumption
                have ht5003_σ_3 : σ_3 5003 = (nI (n + 1)) := by rw [eσ_3_b _ (by first | omega | (simp only [vb] at *; omega))]; first | exact ht5003_τ2 | assumption
                have hcRLs_σ_3 : RLs σ_3 (drw d2) ls (lsN d2 ls lo2) := eσ_3_a
                have hcFR_σ_3 : ∀ a, (464 ≤ a ∧ (a < 4900 ∨ a = 4901 ∨ 4903 ≤ a) ∧ (a < 5001 ∨ 5004 ≤ a) ∧ (a < 5140 ∨ 5148 ≤ a) ∨ a = 10) → σ_3 a = σ a := by intro a ha; exact Eq.trans (b := (τ2) a) (eσ_3_b a (by first | omega | (simp only [vb] at *; omega))) (hcFR_τ2 a ha)
                have hcRW_σ_3 : ∀ k, k < many2 → σ_3 (5140 + k) = nI (rr2 k) := by intro k hk; rw [eσ_3_b _ (by omega)]; exact hcRW_τ2 k hk
                have hvσ_3 : vw 0 σ_3 = μ2 := by rw [vw_fr (σ := (τ2)) (fun j _ _ => eσ_3_b _ (by first | omega | (simp only [vb] at *; omega)))]; first | exact hvτ2 | assumption
                refine g_ifB_eq h dX12_floods_85 (fun c85 => ?_) (fun c85 => ?_)
                ·
                  have J137 : ∀ (μ3 : Nat → Int32) (τ3 : Mem), (μ3 = if (td && (!decide (i = node) && !tb rg2 i)) = true then tkS μ2 (8 * i + node) (nA μ2 (32 + node)) (μ2 (40 + node)) else μ2) → (vw 0 τ3 = μ3) → (τ3 5001 = sd2) → (τ3 5002 = rg2) → (τ3 5003 = (nI (n + 1))) → (RLs τ3 (drw d2) ls (lsN d2 ls lo2)) → (∀ a, (464 ≤ a ∧ (a < 4900 ∨ a = 4901 ∨ 4903 ≤ a) ∧ (a < 5001 ∨ 5004 ≤ a) ∧ (a < 5140 ∨ 5148 ≤ a) ∨ a = 10) → τ3 a = σ a) → (∀ k, k < many2 → τ3 (5140 + k) = nI (rr2 k)) → G X w 7 137 [(0, .ref (w.1 0)), (1, .int (nI node)), (2, .int (b2i bl)), (3, .int (b2i td)), (4, .int (nI many2)), (5, .int (nI (rr1 n))), (6, .int (nI i))] [] (τ3) := by
                    intro μ3 τ3 eμ3 hvτ3 ht5001_τ3 ht5002_τ3 ht5003_τ3 hcRLs_τ3 hcFR_τ3 hcRW_τ3
                    refine g_aload_n h dX12_floods_137 0 rfl ?_
                    refine g_dup h dX12_floods_138 rfl ?_
                    refine g_geti h dX12_floods_139 gX12_147 sc_0 rfl ?_
                    refine g_top (y := rg2) (by first | exact ht5002_τ3 | assumption) ?_
                    refine g_iconst h dX12_floods_142 (by decide) ?_
                    refine g_iload h dX12_floods_143 6 rfl ?_
                    refine g_ishl h dX12_floods_145  ?_
                    refine g_top (y := bt1 i) rfl ?_
                    refine g_ior h dX12_floods_146  ?_
                    refine g_puti h dX12_floods_147 pX12_147 sc_0 rfl ?_
                    refine g_nm (fun σ_4 eσ_4 => ?_)
                    have eσ_4 : σ_4 = upd (τ3) 5002 (rg2 ||| (bt1 i)) := eσ_4
                    have ht5001_σ_4 : σ_4 5001 = sd2 := by rw [eσ_4, upd_ne (by first | omega | (simp only [vb] at *; omega))]; first | exact ht5001_τ3 | assumption
                    have ht5002_σ_4 : σ_4 5002 = (rg2 ||| (bt1 i)) := by rw [eσ_4]; exact upd_eq
                    have ht5003_σ_4 : σ_4 5003 = (nI (n + 1)) := by rw [eσ_4, upd_ne (by first | omega | (simp only [vb] at *; omega))]; first | exact ht5003_τ3 | assumption
                    have hcRLs_σ_4 : RLs σ_4 (drw d2) ls (lsN d2 ls lo2) := by rw [eσ_4]; exact RLs.fr hcRLs_τ3 (upd_ne (by omega)) (upd_ne (by omega)) (upd_ne (by omega))
                    have hcFR_σ_4 : ∀ a, (464 ≤ a ∧ (a < 4900 ∨ a = 4901 ∨ 4903 ≤ a) ∧ (a < 5001 ∨ 5004 ≤ a) ∧ (a < 5140 ∨ 5148 ≤ a) ∨ a = 10) → σ_4 a = σ a := by intro a ha; exact Eq.trans (b := (τ3) a) (by rw [eσ_4, upd_ne (by first | omega | (simp only [vb] at *; omega))]) (hcFR_τ3 a ha)
                    have hcRW_σ_4 : ∀ k, k < many2 → σ_4 (5140 + k) = nI (rr2 k) := by intro k hk; rw [eσ_4, upd_ne (by omega)]; exact hcRW_τ3 k hk
                    have hvσ_4 : vw 0 σ_4 = μ3 := by rw [eσ_4, vw_out (by omega)]; first | exact hvτ3 | assumption
                    refine g_aload_n h dX12_floods_150 0 rfl ?_
                    refine g_geti h dX12_floods_151 gX12_144 sc_0 rfl ?_
                    refine g_top (y := sd2) (by first | exact ht5001_σ_4 | assumption) ?_
                    refine g_iload h dX12_floods_154 6 rfl ?_
                    refine g_cspi (rest := []) h (r_has hW sd2 i (by omega)) lX12_has mX12_65 (Nat.lt_of_lt_of_le (by decide) (Nat.le_refl _)) (by decide) rfl rfl rfl dX12_floods_156 ?_
                    refine g_ifB_ne h dX12_floods_159 (fun c159 => ?_) (fun c159 => ?_)
                    ·
                      refine g_iincN (b := 1) (L' := [(0, .ref (w.1 0)), (1, .int (nI node)), (2, .int (b2i bl)), (3, .int (b2i td)), (4, .int (nI many2)), (5, .int (nI (rr1 n))), (6, .int (nI (i + 1)))]) h dX12_floods_211 6 rfl rfl (by decide) (by decide) rfl ?_
                      refine g_goto h dX12_floods_214 ?_
                      exact ih60 (i + 1) many2 sd2 (rg2 ||| (bt1 i)) μ3 (drw d2) (lsN d2 ls lo2) σ_4 rr2 (by rw [flI, hT2]; simp [fl1, got_w hn8 hi8, got_c hn8 hi8, c33, c67, c78, c85, c159, eμ3]) (by omega) (by omega) (by first | exact hvσ_4 | assumption | fail | fail) (by first | exact ht5001_σ_4 | assumption | fail | fail) (by first | exact ht5002_σ_4 | assumption | fail | fail) (by first | exact ht5003_σ_4 | assumption | fail | fail) (by first | exact hcRLs_σ_4 | assumption | fail | fail) (by first | exact hcFR_σ_4 | assumption | fail | fail) (by first | assumption | exact rw_more2 eσr hcRW_σr | fail | fail) (by omega)
                    ·
                      refine g_iload_n h dX12_floods_162 2 rfl ?_
                      refine g_ifB_ne h dX12_floods_163 (fun c163 => ?_) (fun c163 => ?_)
                      ·
                        have hst : tb sd2 i = false := by assumption
                        have hb8 := pc_bt1 (s := sd2) (k := i) (by omega) hst
                        have hb9 := pc_le (sd2 ||| bt1 i)
                        refine g_aload_n h dX12_floods_186 0 rfl ?_
                        refine g_dup h dX12_floods_187 rfl ?_
                        refine g_geti h dX12_floods_188 gX12_144 sc_0 rfl ?_
                        refine g_top (y := sd2) (by first | exact ht5001_σ_4 | assumption) ?_
                        refine g_iconst h dX12_floods_191 (by decide) ?_
                        refine g_iload h dX12_floods_192 6 rfl ?_
                        refine g_ishl h dX12_floods_194  ?_
                        refine g_top (y := bt1 i) rfl ?_
                        refine g_ior h dX12_floods_195  ?_
                        refine g_puti h dX12_floods_196 pX12_144 sc_0 rfl ?_
                        refine g_nm (fun σ_5 eσ_5 => ?_)
                        have eσ_5 : σ_5 = upd σ_4 5001 (sd2 ||| (bt1 i)) := eσ_5
                        have ht5001_σ_5 : σ_5 5001 = (sd2 ||| (bt1 i)) := by rw [eσ_5]; exact upd_eq
                        have ht5002_σ_5 : σ_5 5002 = (rg2 ||| (bt1 i)) := by rw [eσ_5, upd_ne (by first | omega | (simp only [vb] at *; omega))]; first | exact ht5002_σ_4 | assumption
                        have ht5003_σ_5 : σ_5 5003 = (nI (n + 1)) := by rw [eσ_5, upd_ne (by first | omega | (simp only [vb] at *; omega))]; first | exact ht5003_σ_4 | assumption
                        have hcRLs_σ_5 : RLs σ_5 (drw d2) ls (lsN d2 ls lo2) := by rw [eσ_5]; exact RLs.fr hcRLs_σ_4 (upd_ne (by omega)) (upd_ne (by omega)) (upd_ne (by omega))
                        have hcFR_σ_5 : ∀ a, (464 ≤ a ∧ (a < 4900 ∨ a = 4901 ∨ 4903 ≤ a) ∧ (a < 5001 ∨ 5004 ≤ a) ∧ (a < 5140 ∨ 5148 ≤ a) ∨ a = 10) → σ_5 a = σ a := by intro a ha; exact Eq.trans (b := σ_4 a) (by rw [eσ_5, upd_ne (by first | omega | (simp only [vb] at *; omega))]) (hcFR_σ_4 a ha)
                        have hcRW_σ_5 : ∀ k, k < many2 → σ_5 (5140 + k) = nI (rr2 k) := by intro k hk; rw [eσ_5, upd_ne (by omega)]; exact hcRW_σ_4 k hk
                        have hvσ_5 : vw 0 σ_5 = μ3 := by rw [eσ_5, vw_out (by omega)]; first | exact hvσ_4 | assumption
                        refine g_aload_n h dX12_floods_199 0 rfl ?_
                        refine g_getr h dX12_floods_200 gX12_25 sc_0 rfl ?_
                        refine g_iload h dX12_floods_203 4 rfl ?_
                        refine g_iload h dX12_floods_205 6 rfl ?_
                        refine g_iast h dX12_floods_207 sc_6 (by omega) ?_
                        refine g_nm (fun σr eσr => ?_)
                        have eσr : σr = upd σ_5 (5140 + many2) (nI i) := eσr
                        have ht5001_σr : σr 5001 = (sd2 ||| (bt1 i)) := by rw [eσr, upd_ne (by first | omega | (simp only [vb] at *; omega))]; first | exact ht5001_σ_5 | assumption
                        have ht5002_σr : σr 5002 = (rg2 ||| (bt1 i)) := by rw [eσr, upd_ne (by first | omega | (simp only [vb] at *; omega))]; first | exact ht5002_σ_5 | assumption
                        have ht5003_σr : σr 5003 = (nI (n + 1)) := by rw [eσr, upd_ne (by first | omega | (simp only [vb] at *; omega))]; first | exact ht5003_σ_5 | assumption
                        have hcRLs_σr : RLs σr (drw d2) ls (lsN d2 ls lo2) := by rw [eσr]; exact RLs.fr hcRLs_σ_5 (upd_ne (by omega)) (upd_ne (by omega)) (upd_ne (by omega))
                        have hcFR_σr : ∀ a, (464 ≤ a ∧ (a < 4900 ∨ a = 4901 ∨ 4903 ≤ a) ∧ (a < 5001 ∨ 5004 ≤ a) ∧ (a < 5140 ∨ 5148 ≤ a) ∨ a = 10) → σr a = σ a := by intro a ha; exact Eq.trans (b := σ_5 a) (by rw [eσr, upd_ne (by first | omega | (simp only [vb] at *; omega))]) (hcFR_σ_5 a ha)
                        have hcRW_σr : ∀ k, k < many2 → σr (5140 + k) = nI (rr2 k) := by intro k hk; rw [eσr, upd_ne (by omega)]; exact hcRW_σ_5 k hk
                        have hvσr : vw 0 σr = μ3 := by rw [eσr, vw_out (by omega)]; first | exact hvσ_5 | assumption
                        refine g_iincN (b := 1) (L' := [(0, .ref (w.1 0)), (1, .int (nI node)), (2, .int (b2i bl)), (3, .int (b2i td)), (4, .int (nI (many2 + 1))), (5, .int (nI (rr1 n))), (6, .int (nI i))]) h dX12_floods_208 4 rfl rfl (by decide) (by decide) rfl ?_
                        refine g_iincN (b := 1) (L' := [(0, .ref (w.1 0)), (1, .int (nI node)), (2, .int (b2i bl)), (3, .int (b2i td)), (4, .int (nI (many2 + 1))), (5, .int (nI (rr1 n))), (6, .int (nI (i + 1)))]) h dX12_floods_211 6 rfl rfl (by decide) (by decide) rfl ?_
                        refine g_goto h dX12_floods_214 ?_
                        exact ih60 (i + 1) (many2 + 1) (sd2 ||| (bt1 i)) (rg2 ||| (bt1 i)) μ3 (drw d2) (lsN d2 ls lo2) σr (ru rr2 many2 i) (by rw [flI, hT2]; simp [fl1, got_w hn8 hi8, got_c hn8 hi8, c33, c67, c78, c85, c159, c163, eμ3]) (by omega) (by omega) (by first | exact hvσr | assumption | fail | fail) (by first | exact ht5001_σr | assumption | fail | fail) (by first | exact ht5002_σr | assumption | fail | fail) (by first | exact ht5003_σr | assumption | fail | fail) (by first | exact hcRLs_σr | assumption | fail | fail) (by first | exact hcFR_σr | assumption | fail | fail) (by first | assumption | exact rw_more2 eσr hcRW_σr | fail | fail) (by omega)
                      ·
                        refine g_aload_n h dX12_floods_166 0 rfl ?_
                        refine g_bipush h dX12_floods_167 (by decide) ?_
                        refine g_iload h dX12_floods_169 6 rfl ?_
                        refine g_iaddN h dX12_floods_171  ?_
                        refine g_cvpi (rest := []) h (r_of hW (72 + i) μ3 (by assumption) (by omega)) lX12_of mX12_61 (Nat.lt_of_lt_of_le (by decide) (Nat.le_refl _)) (by decide) sc_0 rfl rfl rfl rfl dX12_floods_172 ?_
                        refine g_top (y := μ2 (72 + i)) (by rw [eμ3]; split <;> first | exact tk_fix (by omega) (by omega) | rfl) ?_
                        refine g_iload h dX12_floods_175 5 rfl ?_
                        refine g_cspi (rest := []) h (r_has hW (μ2 (72 + i)) (rr1 n) (by omega)) lX12_has mX12_65 (Nat.lt_of_lt_of_le (by decide) (Nat.le_refl _)) (by decide) rfl rfl rfl dX12_floods_177 ?_
                        refine g_ifB_ne h dX12_floods_180 (fun c180 => ?_) (fun c180 => ?_)
                        ·
                          have hst : tb sd2 i = false := by assumption
                          have hb8 := pc_bt1 (s := sd2) (k := i) (by omega) hst
                          have hb9 := pc_le (sd2 ||| bt1 i)
                          refine g_aload_n h dX12_floods_186 0 rfl ?_
                          refine g_dup h dX12_floods_187 rfl ?_
                          refine g_geti h dX12_floods_188 gX12_144 sc_0 rfl ?_
                          refine g_top (y := sd2) (by first | exact ht5001_σ_4 | assumption) ?_
                          refine g_iconst h dX12_floods_191 (by decide) ?_
                          refine g_iload h dX12_floods_192 6 rfl ?_
                          refine g_ishl h dX12_floods_194  ?_
                          refine g_top (y := bt1 i) rfl ?_
                          refine g_ior h dX12_floods_195  ?_
                          refine g_puti h dX12_floods_196 pX12_144 sc_0 rfl ?_
                          refine g_nm (fun σ_6 eσ_6 => ?_)
                          have eσ_6 : σ_6 = upd σ_4 5001 (sd2 ||| (bt1 i)) := eσ_6
                          have ht5001_σ_6 : σ_6 5001 = (sd2 ||| (bt1 i)) := by rw [eσ_6]; exact upd_eq
                          have ht5002_σ_6 : σ_6 5002 = (rg2 ||| (bt1 i)) := by rw [eσ_6, upd_ne (by first | omega | (simp only [vb] at *; omega))]; first | exact ht5002_σ_4 | assumption
                          have ht5003_σ_6 : σ_6 5003 = (nI (n + 1)) := by rw [eσ_6, upd_ne (by first | omega | (simp only [vb] at *; omega))]; first | exact ht5003_σ_4 | assumption
                          have hcRLs_σ_6 : RLs σ_6 (drw d2) ls (lsN d2 ls lo2) := by rw [eσ_6]; exact RLs.fr hcRLs_σ_4 (upd_ne (by omega)) (upd_ne (by omega)) (upd_ne (by omega))
                          have hcFR_σ_6 : ∀ a, (464 ≤ a ∧ (a < 4900 ∨ a = 4901 ∨ 4903 ≤ a) ∧ (a < 5001 ∨ 5004 ≤ a) ∧ (a < 5140 ∨ 5148 ≤ a) ∨ a = 10) → σ_6 a = σ a := by intro a ha; exact Eq.trans (b := σ_4 a) (by rw [eσ_6, upd_ne (by first | omega | (simp only [vb] at *; omega))]) (hcFR_σ_4 a ha)
                          have hcRW_σ_6 : ∀ k, k < many2 → σ_6 (5140 + k) = nI (rr2 k) := by intro k hk; rw [eσ_6, upd_ne (by omega)]; exact hcRW_σ_4 k hk
                          have hvσ_6 : vw 0 σ_6 = μ3 := by rw [eσ_6, vw_out (by omega)]; first | exact hvσ_4 | assumption
                          refine g_aload_n h dX12_floods_199 0 rfl ?_
                          refine g_getr h dX12_floods_200 gX12_25 sc_0 rfl ?_
                          refine g_iload h dX12_floods_203 4 rfl ?_
                          refine g_iload h dX12_floods_205 6 rfl ?_
                          refine g_iast h dX12_floods_207 sc_6 (by omega) ?_
                          refine g_nm (fun σr eσr => ?_)
                          have eσr : σr = upd σ_6 (5140 + many2) (nI i) := eσr
                          have ht5001_σr : σr 5001 = (sd2 ||| (bt1 i)) := by rw [eσr, upd_ne (by first | omega | (simp only [vb] at *; omega))]; first | exact ht5001_σ_6 | assumption
                          have ht5002_σr : σr 5002 = (rg2 ||| (bt1 i)) := by rw [eσr, upd_ne (by first | omega | (simp only [vb] at *; omega))]; first | exact ht5002_σ_6 | assumption
                          have ht5003_σr : σr 5003 = (nI (n + 1)) := by rw [eσr, upd_ne (by first | omega | (simp only [vb] at *; omega))]; first | exact ht5003_σ_6 | assumption
                          have hcRLs_σr : RLs σr (drw d2) ls (lsN d2 ls lo2) := by rw [eσr]; exact RLs.fr hcRLs_σ_6 (upd_ne (by omega)) (upd_ne (by omega)) (upd_ne (by omega))
                          have hcFR_σr : ∀ a, (464 ≤ a ∧ (a < 4900 ∨ a = 4901 ∨ 4903 ≤ a) ∧ (a < 5001 ∨ 5004 ≤ a) ∧ (a < 5140 ∨ 5148 ≤ a) ∨ a = 10) → σr a = σ a := by intro a ha; exact Eq.trans (b := σ_6 a) (by rw [eσr, upd_ne (by first | omega | (simp only [vb] at *; omega))]) (hcFR_σ_6 a ha)
                          have hcRW_σr : ∀ k, k < many2 → σr (5140 + k) = nI (rr2 k) := by intro k hk; rw [eσr, upd_ne (by omega)]; exact hcRW_σ_6 k hk
                          have hvσr : vw 0 σr = μ3 := by rw [eσr, vw_out (by omega)]; first | exact hvσ_6 | assumption
                          refine g_iincN (b := 1) (L' := [(0, .ref (w.1 0)), (1, .int (nI node)), (2, .int (b2i bl)), (3, .int (b2i td)), (4, .int (nI (many2 + 1))), (5, .int (nI (rr1 n))), (6, .int (nI i))]) h dX12_floods_208 4 rfl rfl (by decide) (by decide) rfl ?_
                          refine g_iincN (b := 1) (L' := [(0, .ref (w.1 0)), (1, .int (nI node)), (2, .int (b2i bl)), (3, .int (b2i td)), (4, .int (nI (many2 + 1))), (5, .int (nI (rr1 n))), (6, .int (nI (i + 1)))]) h dX12_floods_211 6 rfl rfl (by decide) (by decide) rfl ?_
                          refine g_goto h dX12_floods_214 ?_
                          exact ih60 (i + 1) (many2 + 1) (sd2 ||| (bt1 i)) (rg2 ||| (bt1 i)) μ3 (drw d2) (lsN d2 ls lo2) σr (ru rr2 many2 i) (by rw [flI, hT2]; simp [fl1, got_w hn8 hi8, got_c hn8 hi8, c33, c67, c78, c85, c159, c163, c180, eμ3]) (by omega) (by omega) (by first | exact hvσr | assumption | fail | fail) (by first | exact ht5001_σr | assumption | fail | fail) (by first | exact ht5002_σr | assumption | fail | fail) (by first | exact ht5003_σr | assumption | fail | fail) (by first | exact hcRLs_σr | assumption | fail | fail) (by first | exact hcFR_σr | assumption | fail | fail) (by first | assumption | exact rw_more2 eσr hcRW_σr | fail | fail) (by omega)
                        ·
                          refine g_goto h dX12_floods_183 ?_
                          refine g_iincN (b := 1) (L' := [(0, .ref (w.1 0)), (1, .int (nI node)), (2, .int (b2i bl)), (3, .int (b2i td)), (4, .int (nI many2)), (5, .int (nI (rr1 n))), (6, .int (nI (i + 1)))]) h dX12_floods_211 6 rfl rfl (by decide) (by decide) rfl ?_
                          refine g_goto h dX12_floods_214 ?_
                          exact ih60 (i + 1) many2 sd2 (rg2 ||| (bt1 i)) μ3 (drw d2) (lsN d2 ls lo2) σ_4 rr2 (by rw [flI, hT2]; simp [fl1, got_w hn8 hi8, got_c hn8 hi8, c33, c67, c78, c85, c159, c163, c180, eμ3]) (by omega) (by omega) (by first | exact hvσ_4 | assumption | fail | fail) (by first | exact ht5001_σ_4 | assumption | fail | fail) (by first | exact ht5002_σ_4 | assumption | fail | fail) (by first | exact ht5003_σ_4 | assumption | fail | fail) (by first | exact hcRLs_σ_4 | assumption | fail | fail) (by first | exact hcFR_σ_4 | assumption | fail | fail) (by first | assumption | exact rw_more2 eσr hcRW_σr | fail | fail) (by omega)
                  refine g_iload_n h dX12_floods_91 3 rfl ?_
                  refine g_ifB_eq h dX12_floods_92 (fun c92 => ?_) (fun c92 => ?_)
                  ·
                    exact J137 μ2 σ_3 (by simp [c33, c67, c78, c85, c92, Nat.add_zero]) (by first | exact hvσ_3 | assumption | fail | fail) (by first | exact ht5001_σ_3 | assumption | fail | fail) (by first | exact ht5002_σ_3 | assumption | fail | fail) (by first | exact ht5003_σ_3 | assumption | fail | fail) (by first | exact hcRLs_σ_3 | assumption | fail | fail) (by first | exact hcFR_σ_3 | assumption | fail | fail) (by first | exact hcRW_σ_3 | assumption | fail | fail)
                  ·
                    refine g_iload h dX12_floods_95 6 rfl ?_
                    refine g_iload_n h dX12_floods_97 1 rfl ?_
                    refine g_icmpN_eq h dX12_floods_98 (by omega) (by omega) (fun c98 => ?_) (fun c98 => ?_)
                    ·
                      exact J137 μ2 σ_3 (by simp [c33, c67, c78, c85, c92, c98, Nat.add_zero]) (by first | exact hvσ_3 | assumption | fail | fail) (by first | exact ht5001_σ_3 | assumption | fail | fail) (by first | exact ht5002_σ_3 | assumption | fail | fail) (by first | exact ht5003_σ_3 | assumption | fail | fail) (by first | exact hcRLs_σ_3 | assumption | fail | fail) (by first | exact hcFR_σ_3 | assumption | fail | fail) (by first | exact hcRW_σ_3 | assumption | fail | fail)
                    ·
                      refine g_aload_n h dX12_floods_101 0 rfl ?_
                      refine g_geti h dX12_floods_102 gX12_147 sc_0 rfl ?_
                      refine g_top (y := rg2) (by first | exact ht5002_σ_3 | assumption) ?_
                      refine g_iload h dX12_floods_105 6 rfl ?_
                      refine g_cspi (rest := []) h (r_has hW rg2 i (by omega)) lX12_has mX12_65 (Nat.lt_of_lt_of_le (by decide) (Nat.le_refl _)) (by decide) rfl rfl rfl dX12_floods_107 ?_
                      refine g_ifB_ne h dX12_floods_110 (fun c110 => ?_) (fun c110 => ?_)
                      ·
                        exact J137 μ2 σ_3 (by simp [c33, c67, c78, c85, c92, c98, c110, Nat.add_zero]) (by first | exact hvσ_3 | assumption | fail | fail) (by first | exact ht5001_σ_3 | assumption | fail | fail) (by first | exact ht5002_σ_3 | assumption | fail | fail) (by first | exact ht5003_σ_3 | assumption | fail | fail) (by first | exact hcRLs_σ_3 | assumption | fail | fail) (by first | exact hcFR_σ_3 | assumption | fail | fail) (by first | exact hcRW_σ_3 | assumption | fail | fail)
                      ·
                        refine g_aload_n h dX12_floods_113 0 rfl ?_
                        refine g_iload h dX12_floods_114 6 rfl ?_
                        refine g_iload_n h dX12_floods_116 1 rfl ?_
                        refine g_aload_n h dX12_floods_117 0 rfl ?_
                        refine g_bipush h dX12_floods_118 (by decide) ?_
                        refine g_iload_n h dX12_floods_120 1 rfl ?_
                        refine g_iaddN h dX12_floods_121  ?_
                        refine g_cvpi (rest := [.int (nI node), .int (nI i), .ref (w.1 0)]) h (r_of hW (32 + node) μ2 (by assumption) (by omega)) lX12_of mX12_61 (Nat.lt_of_lt_of_le (by decide) (Nat.le_refl _)) (by decide) sc_0 rfl rfl rfl rfl dX12_floods_122 ?_
                        refine g_top (y := nI (nA μ2 (32 + node))) (mi_32 (by assumption) (by omega)) ?_
                        have b9_122 : nA μ2 (32 + node) < 16 := mb_32 (by assumption) (by omega)
                        refine g_aload_n h dX12_floods_125 0 rfl ?_
                        refine g_bipush h dX12_floods_126 (by decide) ?_
                        refine g_iload_n h dX12_floods_128 1 rfl ?_
                        refine g_iaddN h dX12_floods_129  ?_
                        refine g_cvpi (rest := [.int (nI (nA μ2 (32 + node))), .int (nI node), .int (nI i), .ref (w.1 0)]) h (r_of hW (40 + node) μ2 (by assumption) (by omega)) lX12_of mX12_61 (Nat.lt_of_lt_of_le (by decide) (Nat.le_refl _)) (by decide) sc_0 rfl rfl rfl rfl dX12_floods_130 ?_
                        refine g_cvi (rest := []) h (r_takesIn hW i node (nA μ2 (32 + node)) (μ2 (40 + node)) μ2 (by first | exact hvσ_3 | assumption | fail) (by assumption) (by omega) (by omega) (by omega)) lX12_takesIn mX12_156 (Nat.lt_of_lt_of_le (by decide) (Nat.le_refl _)) (by decide) sc_0 rfl rfl rfl rfl dX12_floods_133 (fun σ_7 eσ_7 => ?_)
                        obtain ⟨eσ_7_a, eσ_7_b⟩ := eσ_7
                        have eσ_7_a : vw 0 σ_7 = tkS μ2 (8 * i + node) (nA μ2 (32 + node)) (μ2 (40 + node)) := eσ_7_a
                        have eσ_7_b : ∀ a, (464 ≤ a ∨ a = 10) → σ_7 a = σ_3 a := eσ_7_b
                        have ht5001_σ_7 : σ_7 5001 = sd2 := by rw [eσ_7_b _ (by first | omega | (simp only [vb] at *; omega))]; first | exact ht5001_σ_3 | assumption
                        have ht5002_σ_7 : σ_7 5002 = rg2 := by rw [eσ_7_b _ (by first | omega | (simp only [vb] at *; omega))]; first | exact ht5002_σ_3 | assumption
                        have ht5003_σ_7 : σ_7 5003 = (nI (n + 1)) := by rw [eσ_7_b _ (by first | omega | (simp only [vb] at *; omega))]; first | exact ht5003_σ_3 | assumption
                        have hcRLs_σ_7 : RLs σ_7 (drw d2) ls (lsN d2 ls lo2) := by exact RLs.fr hcRLs_σ_3 (eσ_7_b _ (by omega)) (eσ_7_b _ (by omega)) (eσ_7_b _ (by omega))
                        have hcFR_σ_7 : ∀ a, (464 ≤ a ∧ (a < 4900 ∨ a = 4901 ∨ 4903 ≤ a) ∧ (a < 5001 ∨ 5004 ≤ a) ∧ (a < 5140 ∨ 5148 ≤ a) ∨ a = 10) → σ_7 a = σ a := by intro a ha; exact Eq.trans (b := σ_3 a) (eσ_7_b a (by first | omega | (simp only [vb] at *; omega))) (hcFR_σ_3 a ha)
                        have hcRW_σ_7 : ∀ k, k < many2 → σ_7 (5140 + k) = nI (rr2 k) := by intro k hk; rw [eσ_7_b _ (by omega)]; exact hcRW_σ_3 k hk
                        obtain ⟨μ_8, eμ_8⟩ : ∃ μ_8 : Nat → Int32, μ_8 = tkS μ2 (8 * i + node) (nA μ2 (32 + node)) (μ2 (40 + node)) := ⟨_, rfl⟩
                        have hvσ_7 : vw 0 σ_7 = μ_8 := by rw [eμ_8]; exact eσ_7_a
                        refine g_pop h dX12_floods_136 rfl ?_
                        exact J137 μ_8 σ_7 (by simp [c33, c67, c78, c85, c92, c98, c110, eμ_8]) (by first | exact hvσ_7 | assumption | fail | fail) (by first | exact ht5001_σ_7 | assumption | fail | fail) (by first | exact ht5002_σ_7 | assumption | fail | fail) (by first | exact ht5003_σ_7 | assumption | fail | fail) (by first | exact hcRLs_σ_7 | assumption | fail | fail) (by first | exact hcFR_σ_7 | assumption | fail | fail) (by first | exact hcRW_σ_7 | assumption | fail | fail)
                ·
                  refine g_goto h dX12_floods_88 ?_
                  refine g_iincN (b := 1) (L' := [(0, .ref (w.1 0)), (1, .int (nI node)), (2, .int (b2i bl)), (3, .int (b2i td)), (4, .int (nI many2)), (5, .int (nI (rr1 n))), (6, .int (nI (i + 1)))]) h dX12_floods_211 6 rfl rfl (by decide) (by decide) rfl ?_
                  refine g_goto h dX12_floods_214 ?_
                  exact ih60 (i + 1) many2 sd2 rg2 μ2 (drw d2) (lsN d2 ls lo2) σ_3 rr2 (by rw [flI, hT2]; simp [fl1, got_w hn8 hi8, got_c hn8 hi8, c33, c67, c78, c85, Nat.add_zero]) (by omega) (by omega) (by first | exact hvσ_3 | assumption | fail | fail) (by first | exact ht5001_σ_3 | assumption | fail | fail) (by first | exact ht5002_σ_3 | assumption | fail | fail) (by first | exact ht5003_σ_3 | assumption | fail | fail) (by first | exact hcRLs_σ_3 | assumption | fail | fail) (by first | exact hcFR_σ_3 | assumption | fail | fail) (by first | assumption | exact rw_more2 eσr hcRW_σr | fail | fail) (by omega)
        exact lp60 (_) 0 many1 sd1 rg1 μ1 d1 lo1 σ_2 rr1 (by rfl) (by omega) (by omega) (by first | exact hvσ_2 | assumption | fail | fail) (by first | exact ht5001_σ_2 | assumption | fail | fail) (by first | exact ht5002_σ_2 | assumption | fail | fail) (by first | exact ht5003_σ_2 | assumption | fail | fail) (by first | exact hcRLs_σ_2 | assumption | fail | fail) (by first | exact hcFR_σ_2 | assumption | fail | fail) (by first | assumption | exact rw_more2 eσr hcRW_σr | fail | fail) (Nat.lt_succ_self _)
  exact lp27 (_) 1 (bt1 node) (nI 0) 0 μ d lo σl (fun _ => node) (by simp only [flW]; rw [and_n0]) (by omega) (by first | exact hvσl | assumption | fail | fail) (by first | exact ht5001_σl | assumption | fail | fail) (by first | exact ht5002_σl | assumption | fail | fail) (by first | exact ht5003_σl | assumption | fail | fail) (by first | exact hcRLs_σl | assumption | fail | fail) (by first | exact hcFR_σl | assumption | fail | fail) (by intro k hk; have e9 : k = 0 := (by omega); subst e9; rw [eσl, upd_ne (by omega), eσk, upd_ne (by omega), eσj, upd_ne (by omega), eσi]; exact upd_eq) (Nat.lt_succ_self _)
