/-! how many all choose, if one had a will; walked -/
theorem b2i_ne1 {p : Bool} (h : b2i p ≠ nI 1) : p = false := by
  cases p
  · rfl
  · exact absurd rfl h
theorem b2i_eq1 {p : Bool} (h : b2i p = nI 1) : p = true := by
  cases p
  · exact absurd h (by decide)
  · rfl
theorem smC_t {μ : Nat → Int32} {k : Nat} (h : tb (μ 1) k = true) : smC μ k + pc (chos μ k) = smC μ (k + 1) := by
  simp only [smC]
  rw [if_pos h]
theorem smC_f {μ : Nat → Int32} {k : Nat} (h : tb (μ 1) k = false) : smC μ k + 0 = smC μ (k + 1) := by
  simp only [smC]
  rw [if_neg (by rw [h]; decide), Nat.add_zero]
theorem dx_nil {w : Wd} : DX w [] := ⟨fun k q h => (by rw [List.getElem?_nil] at h; cases h), fun i j p q h => (by rw [List.getElem?_nil] at h; cases h)⟩

set_option maxRecDepth 100000 in
set_option maxHeartbeats 4000000 in
theorem c_sum {l : Launch} {w : Wd} (hW : Wi w) {σ : Mem} {μ : Nat → Int32} {n who x : Nat} (hm0 : LM σ μ) (hn : nN μ = n) (hw : who < nN μ) (hx : x < 8) : MC l w qL_sum 5 [.ref (w.1 0), .int (nI n), .int (nI who), .int (nI x)] σ (some (.int (nI (smC (upd μ (16 + who) (nI x)) n)))) (fun σ' => LM σ' (upd μ (16 + who) (nI x))) := by
  refine MC.ofX hW (by decide +kernel) (Nat.le_of_ble_eq_true rfl) (fun X h hQ => ?_)
  have h : Fy X (wA w) w cL_sum 6 RL 5 := h
  have hQ : Qx X w (some .int) (some (.int (nI (smC (upd μ (16 + who) (nI x)) n)))) (fun σ' => LM σ' (upd μ (16 + who) (nI x))) := hQ
  have hE : DX w [] := dx_nil
  have h8 := mi_8 hm0.mi
  obtain ⟨μ2, e2⟩ : ∃ μ2 : Nat → Int32, μ2 = upd μ (16 + who) (nI x) := ⟨_, rfl⟩
  rw [← e2] at hQ
  have hn2 : nN μ2 = n := by rw [e2, wl_N]; exact hn
  have LP : ∀ (f k : Nat), k ≤ n → n - k < f → ∀ {σ : Mem} (hm : LM σ μ2), JX X (wA w) w ([]) 6 13 [(0, .ref (w.1 0)), (1, .int (nI n)), (2, .int (nI who)), (3, .int (nI x)), (4, .int (nI (smC μ2 k))), (5, .int (nI k))] [] σ 0 0 := by
    intro f
    induction f with
    | zero => intro k _ h9; exact absurd h9 (Nat.not_lt_zero _)
    | succ f ih =>
      intro k hk hf σ hm
      refine yx_iload h dL_sum_13 5 rfl ?_
      refine yx_iload_n h dL_sum_15 1 rfl ?_
      refine yx_icmpN_ge h dL_sum_16 (by omega) (by omega) (fun c => ?_) (fun c => ?_)
      · refine yx_iload h dL_sum_54 4 rfl ?_
        have ek : k = n := by omega
        subst ek
        exact yx_iret h hQ dL_sum_56 rfl hm
      · refine yx_iload h dL_sum_19 4 rfl ?_
        refine yx_aload_n h dL_sum_21 0 rfl ?_
        refine yx_iload h dL_sum_22 5 rfl ?_
        refine yx_iconst h dL_sum_24 (by decide) ?_
        refine yx_cv (rest := [.int (nI (smC μ2 k))]) h hE ⟨Nat.zero_le _, Nat.zero_le _⟩ (lm_node hW hm (i := k) (wt := 0) (by omega) (by omega)) lX11_node mL_31 (by decide) (by decide) sc_0 rfl rfl rfl rfl dL_sum_25 (fun σ1 hq1 => ?_)
        refine yx_top (y := (b2i (tb (μ2 1) k))) (rfl) ?_
        refine yx_iconst h dL_sum_28 (by decide) ?_
        refine yx_icmp_ne h dL_sum_29 (fun c1 => ?_) (fun c1 => ?_)
        · have c2 := b2i_ne1 c1
          refine yx_iconst h dL_sum_44 (by decide) ?_
          refine yx_iaddN h dL_sum_45 ?_
          refine yx_top (y := (nI (smC μ2 (k + 1)))) (congrArg nI (by first | exact smC_t c2 | exact smC_f c2)) ?_
          refine yx_istore (L' := [(0, .ref (w.1 0)), (1, .int (nI n)), (2, .int (nI who)), (3, .int (nI x)), (4, .int (nI (smC μ2 (k + 1)))), (5, .int (nI k))]) h dL_sum_46 rfl (by decide) rfl ?_
          refine yx_iincN (L' := [(0, .ref (w.1 0)), (1, .int (nI n)), (2, .int (nI who)), (3, .int (nI x)), (4, .int (nI (smC μ2 (k + 1)))), (5, .int (nI (k + 1)))]) h dL_sum_48 5 rfl rfl (by decide) (by decide) rfl ?_
          refine yx_goto h dL_sum_51 ?_
          exact ih (k + 1) (by omega) (by omega) hq1.1
        · have c2 := b2i_eq1 c1
          refine yx_aload_n h dL_sum_32 0 rfl ?_
          refine yx_iload h dL_sum_33 5 rfl ?_
          refine yx_cv (rest := [.int (nI (smC μ2 k))]) h hE ⟨Nat.zero_le _, Nat.zero_le _⟩ (lm_would hW hq1.1 (i := k) (by omega)) lX11_would mL_53 (by decide) (by decide) sc_0 rfl rfl rfl rfl dL_sum_35 (fun σ2 hq2 => ?_)
          refine yx_csp (rest := [.int (nI (smC μ2 k))]) h hE ⟨Nat.zero_le _, Nat.zero_le _⟩ (c_bits hW (chos μ2 k)) lL_bits mL_50 (by decide) (by decide) rfl rfl rfl dL_sum_38 ?_
          refine yx_goto h dL_sum_41 ?_
          refine yx_iaddN h dL_sum_45 ?_
          refine yx_top (y := (nI (smC μ2 (k + 1)))) (congrArg nI (by first | exact smC_t c2 | exact smC_f c2)) ?_
          refine yx_istore (L' := [(0, .ref (w.1 0)), (1, .int (nI n)), (2, .int (nI who)), (3, .int (nI x)), (4, .int (nI (smC μ2 (k + 1)))), (5, .int (nI k))]) h dL_sum_46 rfl (by decide) rfl ?_
          refine yx_iincN (L' := [(0, .ref (w.1 0)), (1, .int (nI n)), (2, .int (nI who)), (3, .int (nI x)), (4, .int (nI (smC μ2 (k + 1)))), (5, .int (nI (k + 1)))]) h dL_sum_48 5 rfl rfl (by decide) (by decide) rfl ?_
          refine yx_goto h dL_sum_51 ?_
          exact ih (k + 1) (by omega) (by omega) hq2.1
  show JX X (wA w) w ([]) 6 0 [(0, .ref (w.1 0)), (1, .int (nI n)), (2, .int (nI who)), (3, .int (nI x))] [] σ 0 0
  refine yx_iconst h dL_sum_0 (by decide) ?_
  refine yx_istore (L' := [(0, .ref (w.1 0)), (1, .int (nI n)), (2, .int (nI who)), (3, .int (nI x)), (4, .int (nI 0))]) h dL_sum_1 rfl (by decide) rfl ?_
  refine yx_aload_n h dL_sum_3 0 rfl ?_
  refine yx_iload_n h dL_sum_4 2 rfl ?_
  refine yx_iload_n h dL_sum_5 3 rfl ?_
  have hw9 := lm_will (l := X.2.1) (w := w) hW hm0 hw hx
  rw [← e2] at hw9
  refine yx_cv (rest := []) h hE ⟨Nat.zero_le _, Nat.zero_le _⟩ (hw9) lX11_will mL_79 (by decide) (by decide) sc_0 rfl rfl rfl rfl dL_sum_6 (fun σ3 hq3 => ?_)
  refine yx_pop h dL_sum_9 rfl ?_
  refine yx_iconst h dL_sum_10 (by decide) ?_
  refine yx_istore (L' := [(0, .ref (w.1 0)), (1, .int (nI n)), (2, .int (nI who)), (3, .int (nI x)), (4, .int (nI 0)), (5, .int (nI 0))]) h dL_sum_11 rfl (by decide) rfl ?_
  exact LP (n + 1) 0 (by omega) (by omega) hq3.1
