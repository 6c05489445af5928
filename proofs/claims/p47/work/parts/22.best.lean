/-! notices; the best will -/
def bwS (μ : Nat → Int32) (i : Nat) : Nat → Nat × Nat
  | 0 => (0, 0)
  | n + 1 => if n = 0 ∨ smC (upd μ (16 + i) (nI n)) (nN μ) < (bwS μ i n).2 then (n, smC (upd μ (16 + i) (nI n)) (nN μ)) else bwS μ i n
theorem bwS_lt {μ : Nat → Int32} {i : Nat} (h8 : nN μ ≤ 8) : ∀ n, (bwS μ i (n + 1)).1 < n + 1 ∧ (bwS μ i (n + 1)).2 ≤ 64
  | 0 => by
    have := smC_le (upd μ (16 + i) (nI 0)) (nN μ)
    simp only [bwS]
    rw [if_pos (Or.inl trivial)]
    exact ⟨show 0 < 1 by decide, show smC (upd μ (16 + i) (nI 0)) (nN μ) ≤ 64 by omega⟩
  | n + 1 => by
    obtain ⟨h1, h2⟩ := bwS_lt (μ := μ) (i := i) h8 n
    have := smC_le (upd μ (16 + i) (nI (n + 1))) (nN μ)
    rw [bwS]
    split
    · exact ⟨show n + 1 < n + 1 + 1 by omega, show smC (upd μ (16 + i) (nI (n + 1))) (nN μ) ≤ 64 by omega⟩
    · exact ⟨by omega, h2⟩
theorem wl_mi {μ : Nat → Int32} {i x : Nat} (h : MI μ) (hi : i < 8) (hx : x < 8) : MI (upd μ (16 + i) (nI x)) := mi_upd h (by omega) (by omega) (pw_num (by rw [nb16 hi]; exact hx) (by omega) (by omega))
theorem wl_N {μ : Nat → Int32} {i : Nat} {x : Int32} : nN (upd μ (16 + i) x) = nN μ := nN_upd (by omega)
theorem upd_upd {μ : Nat → Int32} {a : Nat} {x y : Int32} : upd (upd μ a x) a y = upd μ a y := by
  funext q
  unfold upd
  split <;> rfl
theorem upd_id {μ : Nat → Int32} {a : Nat} : upd μ a (μ a) = μ := by
  funext q
  unfold upd
  split
  · rename_i e
    rw [e]
  · rfl
theorem bw_1 {μ : Nat → Int32} {i n : Nat} (h : n = 0 ∨ smC (upd μ (16 + i) (nI n)) (nN μ) < (bwS μ i n).2) : bwS μ i (n + 1) = (n, smC (upd μ (16 + i) (nI n)) (nN μ)) := by
  rw [bwS, if_pos h]
theorem bw_0 {μ : Nat → Int32} {i n : Nat} (h : ¬ (n = 0 ∨ smC (upd μ (16 + i) (nI n)) (nN μ) < (bwS μ i n).2)) : bwS μ i (n + 1) = bwS μ i n := by
  rw [bwS, if_neg h]
set_option maxRecDepth 100000 in
set_option maxHeartbeats 4000000 in
theorem p_bestWill {l : Launch} {w : Wd} (hW : Wi w) {σ : Mem} (i : Int32) (nt : Nat) (g : Nat → Nat → Int32) (μ μ1 : Nat → Int32) (hv : vw (vb 0) σ = μ) (hI : MI μ) (hw : vw (vb 1) σ = μ1) (hjz : jz μ) (hjz1 : jz μ1) (hcLD_σ : LC (vb 0) σ nt g) : MC l w qX11_bestWill 5 [.ref (w.1 0), .int i] σ (some (.int (an (ns μ i) (nI (bwS μ (toN i) 8).1)))) (fun σ' => (σ' 14000 = (nI (ns μ i))) ∧ (∃ ν, vw (vb 1) σ' = ν ∧ jz ν) ∧ (∀ a, ((a < vb 1 ∨ vb 1 + 528 ≤ a) ∧ a < 14900 ∧ a ≠ 14000) → σ' a = σ a)) := by
  refine MC.of hW (by decide +kernel) (Nat.le_of_ble_eq_true rfl) (fun X h hQ hnm => ?_)
  have h : Fx X w cX11_bestWill 6 RX11 5 := h
  have hQ : Qx X w (some .int) (some (.int (an (ns μ i) (nI (bwS μ (toN i) 8).1)))) (fun σ' => (σ' 14000 = (nI (ns μ i))) ∧ (∃ ν, vw (vb 1) σ' = ν ∧ jz ν) ∧ (∀ a, ((a < vb 1 ∨ vb 1 + 528 ≤ a) ∧ a < 14900 ∧ a ≠ 14000) → σ' a = σ a)) := hQ
  have hN8 := mi_8 hI
  have hvb0 : vb 0 = 10000 := rfl
  have hvb1 : vb 1 = 10528 := rfl
  have hcFR_σ : ∀ a, ((a < vb 1 ∨ vb 1 + 528 ≤ a) ∧ a < 14900 ∧ a ≠ 14000) → σ a = σ a := fun _ _ => rfl
  show G X w 6 0 [(0, .ref (w.1 0)), (1, .int i)] [] σ
  refine g_aload_n h dX11_bestWill_0 0 rfl ?_
  refine g_aload_n h dX11_bestWill_1 0 rfl ?_
  refine g_iload_n h dX11_bestWill_2 1 rfl ?_
  refine g_cvpi (rest := [.ref (w.1 0)]) h (c_ns hW i μ (by first | exact hv | assumption | fail)) lX11_nodeStatus mX11_159 (Nat.lt_of_lt_of_le (by decide) (Nat.le_refl _)) (by decide) sc_0 rfl rfl rfl rfl dX11_bestWill_3 ?_
  refine g_cvi (rest := []) h (c_fails hW (ns μ i) (by repeat (first | omega | exact rg_lt | exact ns_lt | exact ps_lt | exact gst_lt | exact ofS_lt | exact if_lt (by decide) (by decide) | apply fo_lt))) lX11_fails mX11_106 (Nat.lt_of_lt_of_le (by decide) (Nat.le_refl _)) (by decide) sc_0 rfl rfl rfl rfl dX11_bestWill_6 (fun σ_1 eσ_1 => ?_)
  obtain ⟨eσ_1_a, eσ_1_b⟩ := eσ_1
  have eσ_1_a : σ_1 14000 = (nI (ns μ i)) := eσ_1_a
  have eσ_1_b : ∀ a, (a ≠ 14000) → σ_1 a = σ a := eσ_1_b
  have ht14000_σ_1 : σ_1 14000 = (nI (ns μ i)) := eσ_1_a
  have hcLD_σ_1 : LC (vb 0) σ_1 nt g := by exact LC.fr hcLD_σ (fun a ha hb => eσ_1_b a (by first | omega | (simp only [vb] at *; omega)))
  have hcFR_σ_1 : ∀ a, ((a < vb 1 ∨ vb 1 + 528 ≤ a) ∧ a < 14900 ∧ a ≠ 14000) → σ_1 a = σ a := by intro a ha; exact Eq.trans (b := σ a) (eσ_1_b a (by first | omega | (simp only [vb] at *; omega))) (hcFR_σ a ha)
  have hvσ_1 : vw (vb 0) σ_1 = μ := by rw [vw_fr (σ := σ) (fun j _ _ => eσ_1_b _ (by first | omega | (simp only [vb] at *; omega)))]; first | exact hv | assumption
  have hwσ_1 : vw (vb 1) σ_1 = μ1 := by rw [vw_fr (σ := σ) (fun j _ _ => eσ_1_b _ (by first | omega | (simp only [vb] at *; omega)))]; first | exact hw | assumption
  refine g_ifB_eq h dX11_bestWill_9 (fun c9 => ?_) (fun c9 => ?_)
  ·
    have hns := nb0 c9
    obtain ⟨ei, hi9⟩ := nB_N hI (ns_0 hns)
    rw [ei]
    show G X w 6 14 [(0, .ref (w.1 0)), (1, .int (nI (toN i)))] [] σ_1
    refine g_aload_n h dX11_bestWill_14 0 rfl ?_
    refine g_getr h dX11_bestWill_15 gX11_27 sc_0 rfl ?_
    refine g_aload_n h dX11_bestWill_18 0 rfl ?_
    refine g_getr h dX11_bestWill_19 gX11_23 sc_0 rfl ?_
    refine g_cvv (rest := []) h (c_become hW nt g 1 0 μ1 μ (by first | omega | decide | fail) (by first | omega | decide | fail) (by first | omega | decide | fail) (by first | exact hvσ_1 | assumption | fail) (by first | exact w | assumption | fail) (by intro a h1 h2; rw [hjz a h1 h2]; exact hjz1 a h1 h2) (by first | exact hcLD_σ_1 | assumption | fail)) lX5_become mX11_116 (Nat.lt_of_lt_of_le (by decide) (Nat.le_refl _)) (by decide) (sM_0 (m := 1) (by decide)) rfl rfl rfl rfl dX11_bestWill_22 (fun σ_2 eσ_2 => ?_)
    obtain ⟨eσ_2_a, eσ_2_b, eσ_2_c, eσ_2_d⟩ := eσ_2
    have eσ_2_a : vw (vb 1) σ_2 = μ := eσ_2_a
    have eσ_2_b : LC (vb 0) σ_2 nt g := eσ_2_b
    have eσ_2_c : LC (vb 1) σ_2 nt g := eσ_2_c
    have eσ_2_d : ∀ a, (a < vb 1 ∨ vb 1 + 528 ≤ a) → σ_2 a = σ_1 a := eσ_2_d
    have ht14000_σ_2 : σ_2 14000 = (nI (ns μ i)) := by rw [eσ_2_d _ (by first | omega | (simp only [vb] at *; omega))]; first | exact ht14000_σ_1 | assumption
    have hcLD_σ_2 : LC (vb 0) σ_2 nt g := eσ_2_b
    have hcFR_σ_2 : ∀ a, ((a < vb 1 ∨ vb 1 + 528 ≤ a) ∧ a < 14900 ∧ a ≠ 14000) → σ_2 a = σ a := by intro a ha; exact Eq.trans (b := σ_1 a) (eσ_2_d a (by first | omega | (simp only [vb] at *; omega))) (hcFR_σ_1 a ha)
    have hcLC_σ_2 : LC (vb 1) σ_2 nt g := eσ_2_c
    have hvσ_2 : vw (vb 0) σ_2 = μ := by rw [vw_fr (σ := σ_1) (fun j _ _ => eσ_2_d _ (by first | omega | (simp only [vb] at *; omega)))]; first | exact hvσ_1 | assumption
    obtain ⟨μk, eμk⟩ : ∃ μk : Nat → Int32, μk = μ := ⟨_, rfl⟩
    have hwσ_2 : vw (vb 1) σ_2 = μk := by rw [eμk]; exact eσ_2_a
    refine g_iconst h dX11_bestWill_25 (by decide) ?_
    refine g_istore_n (L' := [(0, .ref (w.1 0)), (1, .int (nI (toN i))), (2, .int (nI 0))]) h dX11_bestWill_26 rfl (by decide) rfl ?_
    refine g_iconst h dX11_bestWill_27 (by decide) ?_
    refine g_istore_n (L' := [(0, .ref (w.1 0)), (1, .int (nI (toN i))), (2, .int (nI 0)), (3, .int (nI 0))]) h dX11_bestWill_28 rfl (by decide) rfl ?_
    refine g_iconst h dX11_bestWill_29 (by decide) ?_
    refine g_istore (L' := [(0, .ref (w.1 0)), (1, .int (nI (toN i))), (2, .int (nI 0)), (3, .int (nI 0)), (4, .int (nI 0))]) h dX11_bestWill_30 rfl (by decide) rfl ?_
    have lp32 : ∀ (k9 : Nat) (best : Nat) (few : Nat) (wl : Nat) (μ2 : Nat → Int32) (τ : Mem), (wl ≤ 8) → (0 < wl → (best, few) = bwS μ (toN i) wl) → (∀ y, upd μ2 (16 + toN i) y = upd μ (16 + toN i) y) → (best < 8 ∧ few ≤ 64) → (MI μ2) → (vw (vb 0) τ = μ) → (vw (vb 1) τ = μ2) → (τ 14000 = (nI (ns μ i))) → (LC (vb 0) τ nt g) → (∀ a, ((a < vb 1 ∨ vb 1 + 528 ≤ a) ∧ a < 14900 ∧ a ≠ 14000) → τ a = σ a) → 8 - wl < k9 → G X w 6 32 [(0, .ref (w.1 0)), (1, .int (nI (toN i))), (2, .int (nI best)), (3, .int (nI few)), (4, .int (nI wl))] [] (τ) := by
      intro k9
      induction k9 with
      | zero => intro best few wl μ2 τ hw8 hB hU hbf hI2 hvτ hv_τvb1 ht14000_τ hcLD_τ hcFR_τ hm9; exact absurd hm9 (Nat.not_lt_zero _)
      | succ k9 ih32 =>
        intro best few wl μ2 τ hw8 hB hU hbf hI2 hvτ hv_τvb1 ht14000_τ hcLD_τ hcFR_τ hm32
        refine g_iload h dX11_bestWill_32 4 rfl ?_
        refine g_bipush h dX11_bestWill_34 (by decide) ?_
        refine g_icmpN_gt h dX11_bestWill_36 (by omega) (by omega) (fun c36 => ?_) (fun c36 => ?_)
        ·
          refine g_iload_n h dX11_bestWill_86 2 rfl ?_
          exact g_iret h hQ dX11_bestWill_87 (congrArg (fun z => some (Value.int z)) (show (an (ns μ i) (nI (bwS μ (toN i) 8).1)) = (nI best) by first | exact an_yes hns (by rw [show (8 : Nat) = wl from by omega, ← hB (by omega)]) | exact an_no (k := (ns μ i)) rfl (nb1 c9) | fail)) (by exact ⟨(by first | exact tk_eq (k := (ns μ i)) rfl ht14000_τ | exact ht14000_τ | fail), (by first | exact ⟨μ1, hw, hjz1⟩ | exact ⟨μ1, by assumption, hjz1⟩ | exact ⟨μ2, by assumption, fun a h1 h2 => by have q := congrFun (hU (nI 0)) a; rw [upd_ne (by omega), upd_ne (by omega)] at q; rw [q]; exact hjz a h1 h2⟩ | fail), (by exact hcFR_τ)⟩)
        ·
          refine g_aload_n h dX11_bestWill_39 0 rfl ?_
          refine g_getr h dX11_bestWill_40 gX11_27 sc_0 rfl ?_
          refine g_getr h dX11_bestWill_43 gX11_174 (sM_0 (m := 1) (by decide)) rfl ?_
          refine g_iload_n h dX11_bestWill_46 1 rfl ?_
          refine g_iload h dX11_bestWill_47 4 rfl ?_
          refine g_iast h dX11_bestWill_49 (sM_1 (m := 1) (by decide)) (by omega) ?_
          refine g_nm (fun σ_3 eσ_3 => ?_)
          have eσ_3 : σ_3 = upd (τ) ((vb 1) + (16 + (toN i))) (nI wl) := eσ_3
          have ht14000_σ_3 : σ_3 14000 = (nI (ns μ i)) := by rw [eσ_3, upd_ne (by first | omega | (simp only [vb] at *; omega))]; first | exact ht14000_τ | assumption
          have hcLD_σ_3 : LC (vb 0) σ_3 nt g := by rw [eσ_3]; exact LC.fr hcLD_τ (fun a ha hb => upd_ne (by first | omega | (simp only [vb] at *; omega)))
          have hcFR_σ_3 : ∀ a, ((a < vb 1 ∨ vb 1 + 528 ≤ a) ∧ a < 14900 ∧ a ≠ 14000) → σ_3 a = σ a := by intro a ha; exact Eq.trans (b := (τ) a) (by rw [eσ_3, upd_ne (by first | omega | (simp only [vb] at *; omega))]) (hcFR_τ a ha)
          have hvσ_3 : vw (vb 0) σ_3 = μ := by rw [eσ_3, vw_out (by first | omega | (simp only [vb] at *; omega))]; first | exact hvτ | assumption
          obtain ⟨μw, eμw⟩ : ∃ μw : Nat → Int32, μw = upd μ2 (16 + (toN i)) (nI wl) := ⟨_, rfl⟩
          have hwσ_3 : vw (vb 1) σ_3 = μw := by rw [eσ_3, eμw, vw_in (by omega)]; congr 1
          have hwE : μw = upd μ (16 + toN i) (nI wl) := by rw [eμw]; exact hU _
          have hIw : MI μw := by rw [hwE]; exact wl_mi hI (by omega) (by omega)
          have hNw : nN μw = nN μ := by rw [hwE]; exact wl_N
          have hsle := smC_le μw (nN μw)
          have hsm : smC (upd μ (16 + toN i) (nI wl)) (nN μ) = smC μw (nN μw) := by rw [← hwE, hNw]
          refine g_aload_n h dX11_bestWill_50 0 rfl ?_
          refine g_getr h dX11_bestWill_51 gX11_44 sc_0 rfl ?_
          refine g_aload_n h dX11_bestWill_54 0 rfl ?_
          refine g_getr h dX11_bestWill_55 gX11_27 sc_0 rfl ?_
          refine g_cvi (rest := []) h (c_chosenByAll hW 1 μw (by first | omega | decide | fail) (by assumption) (by exact hIw)) lX0_chosenByAll mX11_246 (Nat.lt_of_lt_of_le (by decide) (Nat.le_refl _)) (by decide) sc_6 rfl rfl rfl rfl dX11_bestWill_58 (fun σ_4 eσ_4 => ?_)
          have eσ_4_a : ∀ a, (a ≠ 15013 ∧ (a < 15100 ∨ 15108 ≤ a)) → σ_4 a = σ_3 a := eσ_4
          have ht14000_σ_4 : σ_4 14000 = (nI (ns μ i)) := by rw [eσ_4_a _ (by first | omega | (simp only [vb] at *; omega))]; first | exact ht14000_σ_3 | assumption
          have hcLD_σ_4 : LC (vb 0) σ_4 nt g := by exact LC.fr hcLD_σ_3 (fun a ha hb => eσ_4_a a (by first | omega | (simp only [vb] at *; omega)))
          have hcFR_σ_4 : ∀ a, ((a < vb 1 ∨ vb 1 + 528 ≤ a) ∧ a < 14900 ∧ a ≠ 14000) → σ_4 a = σ a := by intro a ha; exact Eq.trans (b := σ_3 a) (eσ_4_a a (by first | omega | (simp only [vb] at *; omega))) (hcFR_σ_3 a ha)
          have hvσ_4 : vw (vb 0) σ_4 = μ := by rw [vw_fr (σ := σ_3) (fun j _ _ => eσ_4_a _ (by first | omega | (simp only [vb] at *; omega)))]; first | exact hvσ_3 | assumption
          have hwσ_4 : vw (vb 1) σ_4 = μw := by rw [vw_fr (σ := σ_3) (fun j _ _ => eσ_4_a _ (by first | omega | (simp only [vb] at *; omega)))]; first | exact hwσ_3 | assumption
          refine g_istore (L' := [(0, .ref (w.1 0)), (1, .int (nI (toN i))), (2, .int (nI best)), (3, .int (nI few)), (4, .int (nI wl)), (5, .int (nI (smC μw (nN μw))))]) h dX11_bestWill_61 rfl (by decide) rfl ?_
          refine g_iload h dX11_bestWill_63 4 rfl ?_
          refine g_ifN_eq h dX11_bestWill_65 (by omega) (fun c65 => ?_) (fun c65 => ?_)
          ·
            refine g_iload h dX11_bestWill_74 4 rfl ?_
            refine g_istore_n (L' := [(0, .ref (w.1 0)), (1, .int (nI (toN i))), (2, .int (nI wl)), (3, .int (nI few)), (4, .int (nI wl)), (5, .int (nI (smC μw (nN μw))))]) h dX11_bestWill_76 rfl (by decide) rfl ?_
            refine g_iload h dX11_bestWill_77 5 rfl ?_
            refine g_istore_n (L' := [(0, .ref (w.1 0)), (1, .int (nI (toN i))), (2, .int (nI wl)), (3, .int (nI (smC μw (nN μw)))), (4, .int (nI wl)), (5, .int (nI (smC μw (nN μw))))]) h dX11_bestWill_79 rfl (by decide) rfl ?_
            refine g_iincN (b := 1) (L' := [(0, .ref (w.1 0)), (1, .int (nI (toN i))), (2, .int (nI wl)), (3, .int (nI (smC μw (nN μw)))), (4, .int (nI (wl + 1))), (5, .int (nI (smC μw (nN μw))))]) h dX11_bestWill_80 4 rfl rfl (by decide) (by decide) rfl ?_
            refine g_goto h dX11_bestWill_83 ?_
            exact g_sub [0, 1, 2, 3, 4] rfl (ih32 wl (smC μw (nN μw)) (wl + 1) μw σ_4 (by omega) (by intro _; first | (rw [bw_1 (Or.inl (by omega))]; simp only [hsm]; done) | (rw [bw_1 (Or.inr (by rw [← hB (by omega)]; show _ < few; omega))]; simp only [hsm]; done) | (rw [bw_0 (by rw [← hB (by omega)]; show ¬ (wl = 0 ∨ _ < few); omega)]; exact hB (by omega)) | fail) (by intro y; rw [eμw, upd_upd]; exact hU y) (by omega) (by exact hIw) (by first | exact hvσ_4 | assumption | fail | fail) (by first | exact hvσ_4 | assumption | fail | fail) (by first | exact ht14000_σ_4 | assumption | fail | fail) (by first | exact hcLD_σ_4 | assumption | fail | fail) (by first | exact hcFR_σ_4 | assumption | fail | fail) (by omega))
          ·
            refine g_iload h dX11_bestWill_68 5 rfl ?_
            refine g_iload_n h dX11_bestWill_70 3 rfl ?_
            refine g_icmpN_ge h dX11_bestWill_71 (by omega) (by omega) (fun c71 => ?_) (fun c71 => ?_)
            ·
              refine g_iincN (b := 1) (L' := [(0, .ref (w.1 0)), (1, .int (nI (toN i))), (2, .int (nI best)), (3, .int (nI few)), (4, .int (nI (wl + 1))), (5, .int (nI (smC μw (nN μw))))]) h dX11_bestWill_80 4 rfl rfl (by decide) (by decide) rfl ?_
              refine g_goto h dX11_bestWill_83 ?_
              exact g_sub [0, 1, 2, 3, 4] rfl (ih32 best few (wl + 1) μw σ_4 (by omega) (by intro _; first | (rw [bw_1 (Or.inl (by omega))]; simp only [hsm]; done) | (rw [bw_1 (Or.inr (by rw [← hB (by omega)]; show _ < few; omega))]; simp only [hsm]; done) | (rw [bw_0 (by rw [← hB (by omega)]; show ¬ (wl = 0 ∨ _ < few); omega)]; exact hB (by omega)) | fail) (by intro y; rw [eμw, upd_upd]; exact hU y) (by omega) (by exact hIw) (by first | exact hvσ_4 | assumption | fail | fail) (by first | exact hvσ_4 | assumption | fail | fail) (by first | exact ht14000_σ_4 | assumption | fail | fail) (by first | exact hcLD_σ_4 | assumption | fail | fail) (by first | exact hcFR_σ_4 | assumption | fail | fail) (by omega))
            ·
              refine g_iload h dX11_bestWill_74 4 rfl ?_
              refine g_istore_n (L' := [(0, .ref (w.1 0)), (1, .int (nI (toN i))), (2, .int (nI wl)), (3, .int (nI few)), (4, .int (nI wl)), (5, .int (nI (smC μw (nN μw))))]) h dX11_bestWill_76 rfl (by decide) rfl ?_
              refine g_iload h dX11_bestWill_77 5 rfl ?_
              refine g_istore_n (L' := [(0, .ref (w.1 0)), (1, .int (nI (toN i))), (2, .int (nI wl)), (3, .int (nI (smC μw (nN μw)))), (4, .int (nI wl)), (5, .int (nI (smC μw (nN μw))))]) h dX11_bestWill_79 rfl (by decide) rfl ?_
              refine g_iincN (b := 1) (L' := [(0, .ref (w.1 0)), (1, .int (nI (toN i))), (2, .int (nI wl)), (3, .int (nI (smC μw (nN μw)))), (4, .int (nI (wl + 1))), (5, .int (nI (smC μw (nN μw))))]) h dX11_bestWill_80 4 rfl rfl (by decide) (by decide) rfl ?_
              refine g_goto h dX11_bestWill_83 ?_
              exact g_sub [0, 1, 2, 3, 4] rfl (ih32 wl (smC μw (nN μw)) (wl + 1) μw σ_4 (by omega) (by intro _; first | (rw [bw_1 (Or.inl (by omega))]; simp only [hsm]; done) | (rw [bw_1 (Or.inr (by rw [← hB (by omega)]; show _ < few; omega))]; simp only [hsm]; done) | (rw [bw_0 (by rw [← hB (by omega)]; show ¬ (wl = 0 ∨ _ < few); omega)]; exact hB (by omega)) | fail) (by intro y; rw [eμw, upd_upd]; exact hU y) (by omega) (by exact hIw) (by first | exact hvσ_4 | assumption | fail | fail) (by first | exact hvσ_4 | assumption | fail | fail) (by first | exact ht14000_σ_4 | assumption | fail | fail) (by first | exact hcLD_σ_4 | assumption | fail | fail) (by first | exact hcFR_σ_4 | assumption | fail | fail) (by omega))
    exact lp32 (_) 0 0 0 μk σ_2 (by omega) (by omega) (by intro y; rw [eμk]) (by omega) (by rw [eμk]; exact hI) (by first | exact hvσ_2 | assumption | fail | fail) (by first | exact hvσ_2 | assumption | fail | fail) (by first | exact ht14000_σ_2 | assumption | fail | fail) (by first | exact hcLD_σ_2 | assumption | fail | fail) (by first | exact hcFR_σ_2 | assumption | fail | fail) (Nat.lt_succ_self _)
  ·
    refine g_iconstv h dX11_bestWill_12 (v := (-1)) (by decide) ?_
    exact g_iret h hQ dX11_bestWill_13 (congrArg (fun z => some (Value.int z)) (show (an (ns μ i) (nI (bwS μ (toN i) 8).1)) = (-1) by first | exact an_yes hns (by rw [show (8 : Nat) = wl from by omega, ← hB (by omega)]) | exact an_no (k := (ns μ i)) rfl (nb1 c9) | fail)) (by exact ⟨(by first | exact tk_eq (k := (ns μ i)) rfl ht14000_σ_1 | exact ht14000_σ_1 | fail), (by first | exact ⟨μ1, hw, hjz1⟩ | exact ⟨μ1, by assumption, hjz1⟩ | exact ⟨μ2, by assumption, fun a h1 h2 => by have q := congrFun (hU (nI 0)) a; rw [upd_ne (by omega), upd_ne (by omega)] at q; rw [q]; exact hjz a h1 h2⟩ | fail), (by exact hcFR_σ_1)⟩)
/-! picks; who goes astray -/
def pkn (μ : Nat → Int32) (i : Nat) : Nat := match fs (fun m => (pkB μ i (pkS μ i m)).isNone) 8 with
  | none => 8
  | some n => n
def px (μ : Nat → Int32) (i m : Nat) : Nat := o0 (pkB μ i (pkS μ i m))
theorem pk_end {μ : Nat → Int32} {i ca la : Nat} {τ : Mem} (h : PK μ i τ ca la) : τ ca = nI (pkn μ i) ∧ pkn μ i ≤ 8 ∧ ∀ m, m < pkn μ i → τ (la + m) = nI (px μ i m) := by
  obtain ⟨n, hn, h1, h2, h3⟩ := h
  have hno : ∀ x, x < n → (pkB μ i (pkS μ i x)).isNone = false := fun x hx => by
    obtain ⟨y, hy, _⟩ := h3 x hx
    rw [hy]
    rfl
  have e : pkn μ i = n := by
    unfold pkn
    by_cases c : n < 8
    · rw [fs_here (n := n) hno (by rw [h2 c]; rfl) 8 c]
    · rw [fs_none (fun x hx => hno x (by omega))]
      show 8 = n
      omega
  rw [e]
  refine ⟨h1, hn, fun m hm => ?_⟩
  obtain ⟨y, hy, hy2⟩ := h3 m hm
  unfold px
  rw [hy]
  exact hy2
def sN (f : Nat → Nat) : Nat → Nat
  | 0 => 0
  | n + 1 => sN f n + f n
set_option maxRecDepth 100000 in
set_option maxHeartbeats 4000000 in
theorem p_pick {l : Launch} {w : Wd} (hW : Wi w) {σ : Mem} (i : Int32) (z : Int32)  (μ : Nat → Int32) (hv : vw (vb 0) σ = μ) (hI : MI μ) : MC l w qX11_pick 4 [.ref (w.1 0), .int i, .int z] σ (some (.int (an (fo (fo (ng z) (ns μ i)) (if pkn μ (toN i) ≤ toN z then 7 else 0)) (nI (px μ (toN i) (toN z)))))) (fun σ' => (σ' 14000 = (nI (fo (fo (ng z) (ns μ i)) (if pkn μ (toN i) ≤ toN z then 7 else 0)))) ∧ (∀ a, ((a < 14900 ∧ a ≠ 14000)) → σ' a = σ a)) := by
  refine MC.of hW (by decide +kernel) (Nat.le_of_ble_eq_true rfl) (fun X h hQ hnm => ?_)
  have h : Fx X w cX11_pick 3 RX11 4 := h
  have hQ : Qx X w (some .int) (some (.int (an (fo (fo (ng z) (ns μ i)) (if pkn μ (toN i) ≤ toN z then 7 else 0)) (nI (px μ (toN i) (toN z)))))) (fun σ' => (σ' 14000 = (nI (fo (fo (ng z) (ns μ i)) (if pkn μ (toN i) ≤ toN z then 7 else 0)))) ∧ (∀ a, ((a < 14900 ∧ a ≠ 14000)) → σ' a = σ a)) := hQ
  have hN8 := mi_8 hI
  have hcFR_σ : ∀ a, ((a < 14900 ∧ a ≠ 14000)) → σ a = σ a := fun _ _ => rfl
  show G X w 3 0 [(0, .ref (w.1 0)), (1, .int i), (2, .int z)] [] σ
  have J10 : ∀ (nz : Nat), (nz = ng z) → G X w 3 10 [(0, .ref (w.1 0)), (1, .int i), (2, .int z)] [.int (nI nz), .ref (w.1 0)] σ := by
    intro nz hnz
    have hnl : nz < 100 := by rw [hnz]; exact ng_lt
    refine g_aload_n h dX11_pick_10 0 rfl ?_
    refine g_iload_n h dX11_pick_11 1 rfl ?_
    refine g_cvpi (rest := [.int (nI nz), .ref (w.1 0)]) h (c_ns hW i μ (by first | exact hv | assumption | fail)) lX11_nodeStatus mX11_159 (Nat.lt_of_lt_of_le (by decide) (Nat.le_refl _)) (by decide) sc_0 rfl rfl rfl rfl dX11_pick_12 ?_
    refine g_cspi (rest := [.ref (w.1 0)]) h (c_fo hW nz (ns μ i) (by repeat (first | omega | exact rg_lt | exact ns_lt | exact ps_lt | exact gst_lt | exact ofS_lt | exact if_lt (by decide) (by decide) | apply fo_lt)) (by repeat (first | omega | exact rg_lt | exact ns_lt | exact ps_lt | exact gst_lt | exact ofS_lt | exact if_lt (by decide) (by decide) | apply fo_lt))) lX11_firstOf mX11_163 (Nat.lt_of_lt_of_le (by decide) (Nat.le_refl _)) (by decide) rfl rfl rfl dX11_pick_15 ?_
    refine g_cvi (rest := []) h (c_fails hW (fo nz (ns μ i)) (by repeat (first | omega | exact rg_lt | exact ns_lt | exact ps_lt | exact gst_lt | exact ofS_lt | exact if_lt (by decide) (by decide) | apply fo_lt))) lX11_fails mX11_106 (Nat.lt_of_lt_of_le (by decide) (Nat.le_refl _)) (by decide) sc_0 rfl rfl rfl rfl dX11_pick_18 (fun σ_1 eσ_1 => ?_)
    obtain ⟨eσ_1_a, eσ_1_b⟩ := eσ_1
    have eσ_1_a : σ_1 14000 = (nI (fo nz (ns μ i))) := eσ_1_a
    have eσ_1_b : ∀ a, (a ≠ 14000) → σ_1 a = σ a := eσ_1_b
    have ht14000_σ_1 : σ_1 14000 = (nI (fo nz (ns μ i))) := eσ_1_a
    have hcFR_σ_1 : ∀ a, ((a < 14900 ∧ a ≠ 14000)) → σ_1 a = σ a := by intro a ha; exact Eq.trans (b := σ a) (eσ_1_b a (by first | omega | (simp only [vb] at *; omega))) (hcFR_σ a ha)
    have hvσ_1 : vw (vb 0) σ_1 = μ := by rw [vw_fr (σ := σ) (fun j _ _ => eσ_1_b _ (by first | omega | (simp only [vb] at *; omega)))]; first | exact hv | assumption
    refine g_ifB_eq h dX11_pick_21 (fun c21 => ?_) (fun c21 => ?_)
    ·
      have hA := nb0 c21
      rw [hnz] at hA
      obtain ⟨hs1, hs2⟩ := fo_0 hA
      have hz0 : ¬ z < 0 := fun q9 => by rw [ng_1 q9] at hs1; cases hs1
      have ez := i32_N (Int32.not_lt.mp hz0)
      have hz9 := toN_lt z
      obtain ⟨ei, hi9⟩ := nB_N hI (ns_0 hs2)
      rw [ei, ez]
      show G X w 3 26 [(0, .ref (w.1 0)), (1, .int (nI (toN i))), (2, .int (nI (toN z)))] [] σ_1
      refine g_aload_n h dX11_pick_26 0 rfl ?_
      refine g_getr h dX11_pick_27 gX11_44 sc_0 rfl ?_
      refine g_aload_n h dX11_pick_30 0 rfl ?_
      refine g_getr h dX11_pick_31 gX11_23 sc_0 rfl ?_
      refine g_iload_n h dX11_pick_34 1 rfl ?_
      refine g_cvi (rest := []) h (c_chosen hW (toN i) 0 μ (by first | omega | decide | fail) (by first | exact hvσ_1 | assumption | fail) (by assumption) (by omega)) lX0_chosen mX11_237 (Nat.lt_of_lt_of_le (by decide) (Nat.le_refl _)) (by decide) sc_6 rfl rfl rfl rfl dX11_pick_35 (fun σc eσc => ?_)
      obtain ⟨eσc_a, eσc_b⟩ := eσc
      have eσc_a : PK μ (toN i) σc 15013 15100 := eσc_a
      have eσc_b : ∀ a, (a ≠ 15013 ∧ (a < 15100 ∨ 15108 ≤ a)) → σc a = σ_1 a := eσc_b
      have ht14000_σc : σc 14000 = (nI (fo nz (ns μ i))) := by rw [eσc_b _ (by first | omega | (simp only [vb] at *; omega))]; first | exact ht14000_σ_1 | assumption
      have hcFR_σc : ∀ a, ((a < 14900 ∧ a ≠ 14000)) → σc a = σ a := by intro a ha; exact Eq.trans (b := σ_1 a) (eσc_b a (by first | omega | (simp only [vb] at *; omega))) (hcFR_σ_1 a ha)
      have hvσc : vw (vb 0) σc = μ := by rw [vw_fr (σ := σ_1) (fun j _ _ => eσc_b _ (by first | omega | (simp only [vb] at *; omega)))]; first | exact hvσ_1 | assumption
      have hpk := pk_end eσc_a
      have hpk8 := hpk.2.1
      refine g_pop h dX11_pick_38 rfl ?_
      refine g_aload_n h dX11_pick_39 0 rfl ?_
      refine g_iload_n h dX11_pick_40 2 rfl ?_
      refine g_aload_n h dX11_pick_41 0 rfl ?_
      refine g_getr h dX11_pick_42 gX11_44 sc_0 rfl ?_
      refine g_geti h dX11_pick_45 gX11_240 sc_6 rfl ?_
      refine g_top (y := (nI (pkn μ (toN i)))) hpk.1 ?_
      refine g_icmpN_ge h dX11_pick_48 (by omega) (by omega) (fun c48 => ?_) (fun c48 => ?_)
      ·
        refine g_bipush h dX11_pick_57 (by decide) ?_
        refine g_goto h dX11_pick_59 ?_
        refine g_cvi (rest := []) h (c_fails hW 7 (by repeat (first | omega | exact rg_lt | exact ns_lt | exact ps_lt | exact gst_lt | exact ofS_lt | exact if_lt (by decide) (by decide) | apply fo_lt))) lX11_fails mX11_106 (Nat.lt_of_lt_of_le (by decide) (Nat.le_refl _)) (by decide) sc_0 rfl rfl rfl rfl dX11_pick_63 (fun σf eσf => ?_)
        obtain ⟨eσf_a, eσf_b⟩ := eσf
        have eσf_a : σf 14000 = (nI 7) := eσf_a
        have eσf_b : ∀ a, (a ≠ 14000) → σf a = σc a := eσf_b
        have ht14000_σf : σf 14000 = (nI 7) := eσf_a
        have hcFR_σf : ∀ a, ((a < 14900 ∧ a ≠ 14000)) → σf a = σ a := by intro a ha; exact Eq.trans (b := σc a) (eσf_b a (by first | omega | (simp only [vb] at *; omega))) (hcFR_σc a ha)
        have hvσf : vw (vb 0) σf = μ := by rw [vw_fr (σ := σc) (fun j _ _ => eσf_b _ (by first | omega | (simp only [vb] at *; omega)))]; first | exact hvσc | assumption
        refine g_top (y := nI 1) rfl ?_
        refine g_ifN_eq h dX11_pick_66 (by decide) (fun c66 => absurd c66 (by decide)) (fun c66 => ?_)
        refine g_iconstv h dX11_pick_69 (v := (-1)) (by decide) ?_
        exact g_iret h hQ dX11_pick_70 (congrArg (fun z => some (Value.int z)) (show (an (fo (fo (ng z) (ns μ i)) (if pkn μ (toN i) ≤ toN z then 7 else 0)) (nI (px μ (toN i) (toN z)))) = (-1) by first | exact an_yes (by first | exact (fo_r hA).trans (if_pos (by omega)) | exact (fo_r hA).trans (if_neg (by omega)) | (rw [← hnz]; exact fo_l (nb1 c21)) | fail) (by rfl) | exact an_no (k := 7) (by first | exact (fo_r hA).trans (if_pos (by omega)) | exact (fo_r hA).trans (if_neg (by omega)) | (rw [← hnz]; exact fo_l (nb1 c21)) | fail) (by first | decide | omega | assumption | exact nb1 (by assumption)) | fail)) (by exact ⟨(by first | exact tk_eq (k := 7) (by first | exact (fo_r hA).trans (if_pos (by omega)) | exact (fo_r hA).trans (if_neg (by omega)) | (rw [← hnz]; exact fo_l (nb1 c21)) | fail) ht14000_σf | exact tk_eq (k := 7) (by first | exact (fo_r hA).trans (if_pos (by omega)) | exact (fo_r hA).trans (if_neg (by omega)) | (rw [← hnz]; exact fo_l (nb1 c21)) | fail) ht14000_σf | fail), (by exact hcFR_σf)⟩)
      ·
        refine g_iload_n h dX11_pick_51 2 rfl ?_
        refine g_bipush h dX11_pick_52 (by decide) ?_
        refine g_icmpN_lt h dX11_pick_54 (by omega) (by omega) (fun c54 => ?_) (fun c54 => ?_)
        ·
          refine g_iconst h dX11_pick_62 (by decide) ?_
          refine g_cvi (rest := []) h (c_fails hW 0 (by repeat (first | omega | exact rg_lt | exact ns_lt | exact ps_lt | exact gst_lt | exact ofS_lt | exact if_lt (by decide) (by decide) | apply fo_lt))) lX11_fails mX11_106 (Nat.lt_of_lt_of_le (by decide) (Nat.le_refl _)) (by decide) sc_0 rfl rfl rfl rfl dX11_pick_63 (fun σf eσf => ?_)
          obtain ⟨eσf_a, eσf_b⟩ := eσf
          have eσf_a : σf 14000 = (nI 0) := eσf_a
          have eσf_b : ∀ a, (a ≠ 14000) → σf a = σc a := eσf_b
          have ht14000_σf : σf 14000 = (nI 0) := eσf_a
          have hcFR_σf : ∀ a, ((a < 14900 ∧ a ≠ 14000)) → σf a = σ a := by intro a ha; exact Eq.trans (b := σc a) (eσf_b a (by first | omega | (simp only [vb] at *; omega))) (hcFR_σc a ha)
          have hvσf : vw (vb 0) σf = μ := by rw [vw_fr (σ := σc) (fun j _ _ => eσf_b _ (by first | omega | (simp only [vb] at *; omega)))]; first | exact hvσc | assumption
          refine g_top (y := nI 0) rfl ?_
          refine g_ifN_eq h dX11_pick_66 (by decide) (fun c66 => ?_) (fun c66 => absurd c66 (by decide))
          refine g_aload_n h dX11_pick_71 0 rfl ?_
          refine g_getr h dX11_pick_72 gX11_44 sc_0 rfl ?_
          refine g_getr h dX11_pick_75 gX11_243 sc_6 rfl ?_
          refine g_iload_n h dX11_pick_78 2 rfl ?_
          refine g_iald h dX11_pick_79 sc_7 (by omega) ?_
          refine g_top (y := (nI (px μ (toN i) (toN z)))) (by first | exact hpk.2.2 (toN z) (by omega) | (rw [eσf_b _ (by omega)]; exact hpk.2.2 (toN z) (by omega))) ?_
          exact g_iret h hQ dX11_pick_80 (congrArg (fun z => some (Value.int z)) (show (an (fo (fo (ng z) (ns μ i)) (if pkn μ (toN i) ≤ toN z then 7 else 0)) (nI (px μ (toN i) (toN z)))) = (nI (px μ (toN i) (toN z))) by first | exact an_yes (by first | exact (fo_r hA).trans (if_pos (by omega)) | exact (fo_r hA).trans (if_neg (by omega)) | (rw [← hnz]; exact fo_l (nb1 c21)) | fail) (by rfl) | exact an_no (k := 0) (by first | exact (fo_r hA).trans (if_pos (by omega)) | exact (fo_r hA).trans (if_neg (by omega)) | (rw [← hnz]; exact fo_l (nb1 c21)) | fail) (by first | decide | omega | assumption | exact nb1 (by assumption)) | fail)) (by exact ⟨(by first | exact tk_eq (k := 0) (by first | exact (fo_r hA).trans (if_pos (by omega)) | exact (fo_r hA).trans (if_neg (by omega)) | (rw [← hnz]; exact fo_l (nb1 c21)) | fail) ht14000_σf | exact tk_eq (k := 0) (by first | exact (fo_r hA).trans (if_pos (by omega)) | exact (fo_r hA).trans (if_neg (by omega)) | (rw [← hnz]; exact fo_l (nb1 c21)) | fail) ht14000_σf | fail), (by exact hcFR_σf)⟩)
        ·
          refine g_bipush h dX11_pick_57 (by decide) ?_
          refine g_goto h dX11_pick_59 ?_
          refine g_cvi (rest := []) h (c_fails hW 7 (by repeat (first | omega | exact rg_lt | exact ns_lt | exact ps_lt | exact gst_lt | exact ofS_lt | exact if_lt (by decide) (by decide) | apply fo_lt))) lX11_fails mX11_106 (Nat.lt_of_lt_of_le (by decide) (Nat.le_refl _)) (by decide) sc_0 rfl rfl rfl rfl dX11_pick_63 (fun σf eσf => ?_)
          obtain ⟨eσf_a, eσf_b⟩ := eσf
          have eσf_a : σf 14000 = (nI 7) := eσf_a
          have eσf_b : ∀ a, (a ≠ 14000) → σf a = σc a := eσf_b
          have ht14000_σf : σf 14000 = (nI 7) := eσf_a
          have hcFR_σf : ∀ a, ((a < 14900 ∧ a ≠ 14000)) → σf a = σ a := by intro a ha; exact Eq.trans (b := σc a) (eσf_b a (by first | omega | (simp only [vb] at *; omega))) (hcFR_σc a ha)
          have hvσf : vw (vb 0) σf = μ := by rw [vw_fr (σ := σc) (fun j _ _ => eσf_b _ (by first | omega | (simp only [vb] at *; omega)))]; first | exact hvσc | assumption
          refine g_top (y := nI 1) rfl ?_
          refine g_ifN_eq h dX11_pick_66 (by decide) (fun c66 => absurd c66 (by decide)) (fun c66 => ?_)
          refine g_iconstv h dX11_pick_69 (v := (-1)) (by decide) ?_
          exact g_iret h hQ dX11_pick_70 (congrArg (fun z => some (Value.int z)) (show (an (fo (fo (ng z) (ns μ i)) (if pkn μ (toN i) ≤ toN z then 7 else 0)) (nI (px μ (toN i) (toN z)))) = (-1) by first | exact an_yes (by first | exact (fo_r hA).trans (if_pos (by omega)) | exact (fo_r hA).trans (if_neg (by omega)) | (rw [← hnz]; exact fo_l (nb1 c21)) | fail) (by rfl) | exact an_no (k := 7) (by first | exact (fo_r hA).trans (if_pos (by omega)) | exact (fo_r hA).trans (if_neg (by omega)) | (rw [← hnz]; exact fo_l (nb1 c21)) | fail) (by first | decide | omega | assumption | exact nb1 (by assumption)) | fail)) (by exact ⟨(by first | exact tk_eq (k := 7) (by first | exact (fo_r hA).trans (if_pos (by omega)) | exact (fo_r hA).trans (if_neg (by omega)) | (rw [← hnz]; exact fo_l (nb1 c21)) | fail) ht14000_σf | exact tk_eq (k := 7) (by first | exact (fo_r hA).trans (if_pos (by omega)) | exact (fo_r hA).trans (if_neg (by omega)) | (rw [← hnz]; exact fo_l (nb1 c21)) | fail) ht14000_σf | fail), (by exact hcFR_σf)⟩)
    ·
      refine g_iconstv h dX11_pick_24 (v := (-1)) (by decide) ?_
      exact g_iret h hQ dX11_pick_25 (congrArg (fun z => some (Value.int z)) (show (an (fo (fo (ng z) (ns μ i)) (if pkn μ (toN i) ≤ toN z then 7 else 0)) (nI (px μ (toN i) (toN z)))) = (-1) by first | exact an_yes (by first | exact (fo_r hA).trans (if_pos (by omega)) | exact (fo_r hA).trans (if_neg (by omega)) | (rw [← hnz]; exact fo_l (nb1 c21)) | fail) (by rfl) | exact an_no (k := (fo nz (ns μ i))) (by first | exact (fo_r hA).trans (if_pos (by omega)) | exact (fo_r hA).trans (if_neg (by omega)) | (rw [← hnz]; exact fo_l (nb1 c21)) | fail) (by first | decide | omega | assumption | exact nb1 (by assumption)) | fail)) (by exact ⟨(by first | exact tk_eq (k := (fo nz (ns μ i))) (by first | exact (fo_r hA).trans (if_pos (by omega)) | exact (fo_r hA).trans (if_neg (by omega)) | (rw [← hnz]; exact fo_l (nb1 c21)) | fail) ht14000_σ_1 | exact tk_eq (k := (fo nz (ns μ i))) (by first | exact (fo_r hA).trans (if_pos (by omega)) | exact (fo_r hA).trans (if_neg (by omega)) | (rw [← hnz]; exact fo_l (nb1 c21)) | fail) ht14000_σ_1 | fail), (by exact hcFR_σ_1)⟩)
  refine g_aload_n h dX11_pick_0 0 rfl ?_
  refine g_iload_n h dX11_pick_1 2 rfl ?_
  refine g_if_ge h dX11_pick_2 (fun c2 => ?_) (fun c2 => ?_)
  ·
    refine g_iconst h dX11_pick_9 (by decide) ?_
    exact J10 0 (by first | exact (ng_0 (Int32.not_lt.mpr c2)).symm | exact (ng_1 (Int32.not_le.mp c2)).symm | fail | fail)
  ·
    refine g_iconst h dX11_pick_5 (by decide) ?_
    refine g_goto h dX11_pick_6 ?_
    exact J10 1 (by first | exact (ng_0 (Int32.not_lt.mpr c2)).symm | exact (ng_1 (Int32.not_le.mp c2)).symm | fail | fail)

theorem as_1 {n n2 b : Nat} {f : Nat → Nat} (h : n2 = n + sN f b) (h1 : f b = 1) : n2 + 1 = n + sN f (b + 1) := by
  simp only [sN]
  omega
