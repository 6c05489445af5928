/-! going, the class's -/
theorem rn_or {R : RT} (h : R1 R) (y : Nat) : (rs R y = 0 ∧ rn R y = -1) ∨ (rs R y ≠ 0 ∧ rn R y = nI (rx R y)) := by
  by_cases c : rs R y = 0
  · left
    refine ⟨c, ?_⟩
    unfold rn
    rw [h.none c]
  · exact Or.inr ⟨c, rn_rx c⟩

set_option maxRecDepth 100000 in
set_option maxHeartbeats 4000000 in
theorem c_isOnM {l : Launch} {w : Wd} (hW : Wi w) {σ : Mem} (m : Nat) (μ : Nat → Int32) (hm : m < 6) (hv : vw (vb m) σ = μ) (hI : MI μ) : MC l w qX5_isOn 1 [.ref (w.1 (mc m 0)), .int (-1)] σ (some (.int (b2i false))) (fun σ' => σ' = σ) := by
  refine MC.of hW (by decide +kernel) (Nat.le_of_ble_eq_true rfl) (fun X h hQ hnm => ?_)
  have h : Fx X w cX5_isOn 2 RX5 1 := h
  have hQ : Qx X w (some .boolean) (some (.int (b2i false))) (fun σ' => σ' = σ) := hQ
  show G X w 2 0 [(0, .ref (w.1 (mc m 0))), (1, .int (-1))] [] σ
  refine g_aload_n h dX5_isOn_0 0 rfl ?_
  refine g_iload_n h dX5_isOn_1 1 rfl ?_
  refine g_cvpi (rest := []) h (c_isNode hW (-1) m μ (by first | omega | decide | fail) (by first | exact hv | assumption | fail)) lX5_isNode mX5_81 (Nat.lt_of_lt_of_le (by decide) (Nat.le_refl _)) (by decide) (sM_0 (m := m) (by omega)) rfl rfl rfl rfl dX5_isOn_2 ?_
  refine g_top (y := (b2i false)) (by rw [show decide ((0 : Int32) ≤ -1) = false from by decide]; rfl) ?_
  refine g_ifB_eq h dX5_isOn_5 (fun c5 => ?_) (fun c5 => absurd c5 (by decide))
  refine g_iconst h dX5_isOn_23 (by decide) ?_
  exact g_zret h hQ dX5_isOn_24 (show narrow .boolean (.int (b2i false)) = .int (b2i false) from narrow_b2i _) rfl rfl

set_option maxRecDepth 100000 in
set_option maxHeartbeats 4000000 in
theorem c_follow {l : Launch} {w : Wd} (hW : Wi w) {σ : Mem} (fr to : Nat) (m : Nat) (μ : Nat → Int32) (hm : m < 6) (hv : vw (vb m) σ = μ) (hI : MI μ) (hf : fr < nN μ) (ht : to < nN μ) (hcCA_σ : CA σ μ) : MC l w qX2_follow 2 [.ref (w.1 23), .ref (w.1 (mc m 0)), .ref (w.1 20), .int (nI fr), .int (nI to)] σ none (fun σ' => (σ' 15020 = (nI ((gnw μ fr to).2.1 - 1))) ∧ (σ' 15021 = (nI ((gnw μ fr to).1))) ∧ (σ' 15022 = ((gnw μ fr to).2.2.2)) ∧ (CA σ' μ) ∧ (GN 15170 σ' (gnw μ fr to).2.1 (gnw μ fr to).2.2.1) ∧ (∀ a, ((a < 15020 ∨ 15023 ≤ a) ∧ (a < 15170 ∨ 15179 ≤ a)) → σ' a = σ a)) := by
  refine MC.of hW (by decide +kernel) (Nat.le_of_ble_eq_true rfl) (fun X h hQ hnm => ?_)
  have h : Fx X w cX2_follow 8 RX2 2 := h
  have hQ : Qx X w none none (fun σ' => (σ' 15020 = (nI ((gnw μ fr to).2.1 - 1))) ∧ (σ' 15021 = (nI ((gnw μ fr to).1))) ∧ (σ' 15022 = ((gnw μ fr to).2.2.2)) ∧ (CA σ' μ) ∧ (GN 15170 σ' (gnw μ fr to).2.1 (gnw μ fr to).2.2.1) ∧ (∀ a, ((a < 15020 ∨ 15023 ≤ a) ∧ (a < 15170 ∨ 15179 ≤ a)) → σ' a = σ a)) := hQ
  have hN8 := mi_8 hI
  have hcFR_σ : ∀ a, ((a < 15020 ∨ 15023 ≤ a) ∧ (a < 15170 ∨ 15179 ≤ a)) → σ a = σ a := fun _ _ => rfl
  show G X w 8 0 [(0, .ref (w.1 23)), (1, .ref (w.1 (mc m 0))), (2, .ref (w.1 20)), (3, .int (nI fr)), (4, .int (nI to))] [] σ
  refine g_iload_n h dX2_follow_0 3 rfl ?_
  refine g_istore (L' := [(0, .ref (w.1 23)), (1, .ref (w.1 (mc m 0))), (2, .ref (w.1 20)), (3, .int (nI fr)), (4, .int (nI to)), (5, .int (nI fr))]) h dX2_follow_1 rfl (by decide) rfl ?_
  refine g_aload_n h dX2_follow_3 0 rfl ?_
  refine g_getr h dX2_follow_4 gX2_9 sc_23 rfl ?_
  refine g_iconst h dX2_follow_7 (by decide) ?_
  refine g_iload_n h dX2_follow_8 3 rfl ?_
  refine g_iast h dX2_follow_9 sc_24 (by omega) ?_
  refine g_nm (fun σa eσa => ?_)
  have eσa : σa = upd σ (15170 + 0) (nI fr) := eσa
  have hcCA_σa : CA σa μ := by rw [eσa]; exact CA.fr hcCA_σ hI (fun a ha hb => upd_ne (by first | omega | (simp only [vb] at *; omega)))
  have hcFR_σa : ∀ a, ((a < 15020 ∨ 15023 ≤ a) ∧ (a < 15170 ∨ 15179 ≤ a)) → σa a = σ a := by intro a ha; exact Eq.trans (b := σ a) (by rw [eσa, upd_ne (by first | omega | (simp only [vb] at *; omega))]) (hcFR_σ a ha)
  have hvσa : vw (vb m) σa = μ := by rw [eσa, vw_out (by first | omega | (simp only [vb] at *; omega))]; first | exact hv | assumption
  have hcGN_σa : GN 15170 σa 1 (fun _ => fr) := fun q hq => by rw [show q = 0 from by omega]; rw [eσa]; exact upd_eq
  refine g_aload_n h dX2_follow_10 0 rfl ?_
  refine g_iconst h dX2_follow_11 (by decide) ?_
  refine g_puti h dX2_follow_12 pX2_15 sc_23 rfl ?_
  refine g_nm (fun σ_1 eσ_1 => ?_)
  have eσ_1 : σ_1 = upd σa 15020 (nI 0) := eσ_1
  have ht15020_σ_1 : σ_1 15020 = (nI 0) := by rw [eσ_1]; exact upd_eq
  have hcCA_σ_1 : CA σ_1 μ := by rw [eσ_1]; exact CA.fr hcCA_σa hI (fun a ha hb => upd_ne (by first | omega | (simp only [vb] at *; omega)))
  have hcFR_σ_1 : ∀ a, ((a < 15020 ∨ 15023 ≤ a) ∧ (a < 15170 ∨ 15179 ≤ a)) → σ_1 a = σ a := by intro a ha; exact Eq.trans (b := σa a) (by rw [eσ_1, upd_ne (by first | omega | (simp only [vb] at *; omega))]) (hcFR_σa a ha)
  have hcGN_σ_1 : GN 15170 σ_1 1 (fun _ => fr) := by rw [eσ_1]; exact GN.fr hcGN_σa (fun a ha hb => upd_ne (by omega))
  have hvσ_1 : vw (vb m) σ_1 = μ := by rw [eσ_1, vw_out (by first | omega | (simp only [vb] at *; omega))]; first | exact hvσa | assumption
  refine g_aload_n h dX2_follow_15 0 rfl ?_
  refine g_iconst h dX2_follow_16 (by decide) ?_
  refine g_puti h dX2_follow_17 pX2_19 sc_23 rfl ?_
  refine g_nm (fun σ_2 eσ_2 => ?_)
  have eσ_2 : σ_2 = upd σ_1 15021 (nI 1) := eσ_2
  have ht15020_σ_2 : σ_2 15020 = (nI 0) := by rw [eσ_2, upd_ne (by first | omega | (simp only [vb] at *; omega))]; first | exact ht15020_σ_1 | assumption
  have ht15021_σ_2 : σ_2 15021 = (nI 1) := by rw [eσ_2]; exact upd_eq
  have hcCA_σ_2 : CA σ_2 μ := by rw [eσ_2]; exact CA.fr hcCA_σ_1 hI (fun a ha hb => upd_ne (by first | omega | (simp only [vb] at *; omega)))
  have hcFR_σ_2 : ∀ a, ((a < 15020 ∨ 15023 ≤ a) ∧ (a < 15170 ∨ 15179 ≤ a)) → σ_2 a = σ a := by intro a ha; exact Eq.trans (b := σ_1 a) (by rw [eσ_2, upd_ne (by first | omega | (simp only [vb] at *; omega))]) (hcFR_σ_1 a ha)
  have hcGN_σ_2 : GN 15170 σ_2 1 (fun _ => fr) := by rw [eσ_2]; exact GN.fr hcGN_σ_1 (fun a ha hb => upd_ne (by omega))
  have hvσ_2 : vw (vb m) σ_2 = μ := by rw [eσ_2, vw_out (by first | omega | (simp only [vb] at *; omega))]; first | exact hvσ_1 | assumption
  refine g_aload_n h dX2_follow_20 0 rfl ?_
  refine g_iload_n h dX2_follow_21 3 rfl ?_
  refine g_cspi (rest := [.ref (w.1 23)]) h (c_bit hW fr ) lX5_bit mX2_22 (Nat.lt_of_lt_of_le (by decide) (Nat.le_refl _)) (by decide) rfl rfl rfl dX2_follow_22 ?_
  refine g_puti h dX2_follow_25 pX2_28 sc_23 rfl ?_
  refine g_nm (fun σ_3 eσ_3 => ?_)
  have eσ_3 : σ_3 = upd σ_2 15022 (bt1 fr) := eσ_3
  have ht15020_σ_3 : σ_3 15020 = (nI 0) := by rw [eσ_3, upd_ne (by first | omega | (simp only [vb] at *; omega))]; first | exact ht15020_σ_2 | assumption
  have ht15021_σ_3 : σ_3 15021 = (nI 1) := by rw [eσ_3, upd_ne (by first | omega | (simp only [vb] at *; omega))]; first | exact ht15021_σ_2 | assumption
  have ht15022_σ_3 : σ_3 15022 = (bt1 fr) := by rw [eσ_3]; exact upd_eq
  have hcCA_σ_3 : CA σ_3 μ := by rw [eσ_3]; exact CA.fr hcCA_σ_2 hI (fun a ha hb => upd_ne (by first | omega | (simp only [vb] at *; omega)))
  have hcFR_σ_3 : ∀ a, ((a < 15020 ∨ 15023 ≤ a) ∧ (a < 15170 ∨ 15179 ≤ a)) → σ_3 a = σ a := by intro a ha; exact Eq.trans (b := σ_2 a) (by rw [eσ_3, upd_ne (by first | omega | (simp only [vb] at *; omega))]) (hcFR_σ_2 a ha)
  have hcGN_σ_3 : GN 15170 σ_3 1 (fun _ => fr) := by rw [eσ_3]; exact GN.fr hcGN_σ_2 (fun a ha hb => upd_ne (by omega))
  have hvσ_3 : vw (vb m) σ_3 = μ := by rw [eσ_3, vw_out (by first | omega | (simp only [vb] at *; omega))]; first | exact hvσ_2 | assumption
  refine g_iconst h dX2_follow_28 (by decide) ?_
  refine g_istore (L' := [(0, .ref (w.1 23)), (1, .ref (w.1 (mc m 0))), (2, .ref (w.1 20)), (3, .int (nI fr)), (4, .int (nI to)), (5, .int (nI fr)), (6, .int (nI 1))]) h dX2_follow_29 rfl (by decide) rfl ?_
  have lp31 : ∀ (k9 : Nat) (hr : Nat) (km : Nat) (sp : Nat) (been : Int32) (gn : Nat → Nat) (τ : Mem), (goR μ to (9 - km) km gn been = gnw μ fr to) → (hr = gn (km - 1)) → (1 ≤ km ∧ km ≤ 9) → (sp + 1 = km) → (hr < nN μ) → (vw (vb m) τ = μ) → (τ 15020 = (nI sp)) → (τ 15021 = (nI 1)) → (τ 15022 = been) → (CA τ μ) → (∀ a, ((a < 15020 ∨ 15023 ≤ a) ∧ (a < 15170 ∨ 15179 ≤ a)) → τ a = σ a) → (GN 15170 τ km gn) → 9 - km < k9 → G X w 8 31 [(0, .ref (w.1 23)), (1, .ref (w.1 (mc m 0))), (2, .ref (w.1 20)), (3, .int (nI fr)), (4, .int (nI to)), (5, .int (nI hr)), (6, .int (nI km))] [] (τ) := by
    intro k9
    induction k9 with
    | zero => intro hr km sp been gn τ hg hh hkm hsp hr8 hvτ ht15020_τ ht15021_τ ht15022_τ hcCA_τ hcFR_τ hcGN_τ hm9; exact absurd hm9 (Nat.not_lt_zero _)
    | succ k9 ih31 =>
      intro hr km sp been gn τ hg hh hkm hsp hr8 hvτ ht15020_τ ht15021_τ ht15022_τ hcCA_τ hcFR_τ hcGN_τ hm31
      refine g_iload h dX2_follow_31 6 rfl ?_
      refine g_bipush h dX2_follow_33 (by decide) ?_
      refine g_icmpN_gt h dX2_follow_35 (by omega) (by omega) (fun c35 => ?_) (fun c35 => ?_)
      ·
        have hE : gnw μ fr to = (1, km, gn, been) := by rw [← hg, show 9 - km = 0 from by omega]; rfl
        exact g_vret h hQ dX2_follow_152 rfl (by exact ⟨(by rw [hE]; first | exact ht15020_τ | (rw [show km - 1 = sp from by omega]; exact ht15020_τ)), (by rw [hE]; exact ht15021_τ), (by rw [hE]; exact ht15022_τ), (by first | exact hcCA_τ | assumption | fail), (by rw [hE]; exact hcGN_τ), (by exact hcFR_τ)⟩)
      ·
        refine g_aload_n h dX2_follow_38 2 rfl ?_
        refine g_getr h dX2_follow_39 gX2_31 sc_20 rfl ?_
        refine g_iload h dX2_follow_42 5 rfl ?_
        refine g_iload h dX2_follow_44 4 rfl ?_
        refine g_cspi (rest := [.ref (w.1 22)]) h (c_at hW hr to ) lX5_at mX2_36 (Nat.lt_of_lt_of_le (by decide) (Nat.le_refl _)) (by decide) rfl rfl rfl dX2_follow_46 ?_
        refine g_iald h dX2_follow_49 sc_22 (by omega) ?_
        refine g_top (y := (rn (rts μ hr 6) to)) (((hcCA_τ hr hr8) to ht).2) ?_
        refine g_istore (L' := [(0, .ref (w.1 23)), (1, .ref (w.1 (mc m 0))), (2, .ref (w.1 20)), (3, .int (nI fr)), (4, .int (nI to)), (5, .int (nI hr)), (6, .int (nI km)), (7, .int (rn (rts μ hr 6) to))]) h dX2_follow_50 rfl (by decide) rfl ?_
        rcases rn_or (rts_lv hI (show hr < 8 by omega) 6).r1 to with ⟨ha, hb⟩ | ⟨ha, hb⟩
        ·
          rw [hb]
          show G X w 8 52 [(0, .ref (w.1 23)), (1, .ref (w.1 (mc m 0))), (2, .ref (w.1 20)), (3, .int (nI fr)), (4, .int (nI to)), (5, .int (nI hr)), (6, .int (nI km)), (7, .int (-1))] [] (τ)
          refine g_aload_n h dX2_follow_52 1 rfl ?_
          refine g_iload h dX2_follow_53 7 rfl ?_
          refine g_cvpi (rest := []) h (c_isOnM hW m μ (by first | omega | decide | fail) (by first | exact hvτ | assumption | fail) (by assumption)) lX5_isOn mX2_40 (Nat.lt_of_lt_of_le (by decide) (Nat.le_refl _)) (by decide) (sM_0 (m := m) (by omega)) rfl rfl rfl rfl dX2_follow_55 ?_
          refine g_top (y := nI 0) rfl ?_
          refine g_ifN_eq h dX2_follow_58 (by decide) (fun c58 => ?_) (fun c58 => absurd c58 (by decide))
          have hE : gnw μ fr to = (1, km, gn, been) := by rw [← hg]; first | exact goR_none (by rw [← hh]; exact stp_0 ha) (by omega) | exact goR_none (by rw [← hh]; exact stp_1 c58) (by omega) | exact goR_none (by rw [← hh]; exact stp_2 c73) (by omega)
          exact g_vret h hQ dX2_follow_76 rfl (by exact ⟨(by rw [hE]; first | exact ht15020_τ | (rw [show km - 1 = sp from by omega]; exact ht15020_τ)), (by rw [hE]; exact ht15021_τ), (by rw [hE]; exact ht15022_τ), (by first | exact hcCA_τ | assumption | fail), (by rw [hE]; exact hcGN_τ), (by exact hcFR_τ)⟩)
        ·
          rw [hb]
          have hn8 := rts_rx hI (show hr < 8 by omega) ha
          show G X w 8 52 [(0, .ref (w.1 23)), (1, .ref (w.1 (mc m 0))), (2, .ref (w.1 20)), (3, .int (nI fr)), (4, .int (nI to)), (5, .int (nI hr)), (6, .int (nI km)), (7, .int (nI (rx (rts μ hr 6) to)))] [] (τ)
          refine g_aload_n h dX2_follow_52 1 rfl ?_
          refine g_iload h dX2_follow_53 7 rfl ?_
          refine g_cvpi (rest := []) h (c_isOnJ hW (rx (rts μ hr 6) to) m μ (by first | omega | decide | fail) (by first | exact hvτ | assumption | fail) (by assumption) (by omega)) lX5_isOn mX2_40 (Nat.lt_of_lt_of_le (by decide) (Nat.le_refl _)) (by decide) (sM_0 (m := m) (by omega)) rfl rfl rfl rfl dX2_follow_55 ?_
          refine g_ifB_eq h dX2_follow_58 (fun c58 => ?_) (fun c58 => ?_)
          ·
            have hE : gnw μ fr to = (1, km, gn, been) := by rw [← hg]; first | exact goR_none (by rw [← hh]; exact stp_0 ha) (by omega) | exact goR_none (by rw [← hh]; exact stp_1 c58) (by omega) | exact goR_none (by rw [← hh]; exact stp_2 c73) (by omega)
            exact g_vret h hQ dX2_follow_76 rfl (by exact ⟨(by rw [hE]; first | exact ht15020_τ | (rw [show km - 1 = sp from by omega]; exact ht15020_τ)), (by rw [hE]; exact ht15021_τ), (by rw [hE]; exact ht15022_τ), (by first | exact hcCA_τ | assumption | fail), (by rw [hE]; exact hcGN_τ), (by exact hcFR_τ)⟩)
          ·
            refine g_aload_n h dX2_follow_61 1 rfl ?_
            refine g_getr h dX2_follow_62 gX2_44 (sM_0 (m := m) (by omega)) rfl ?_
            refine g_iload h dX2_follow_65 7 rfl ?_
            refine g_iald h dX2_follow_67 (sM_2 (m := m) (by omega)) (by omega) ?_
            refine g_top (y := μ (24 + (rx (rts μ hr 6) to))) (vw_pic (b := (vb m)) (k := 24 + (rx (rts μ hr 6) to)) (by first | exact hvτ | assumption) (by omega)) ?_
            refine g_iload h dX2_follow_68 5 rfl ?_
            refine g_cspi (rest := []) h (c_has hW (μ (24 + (rx (rts μ hr 6) to))) hr (by omega)) lX5_has mX2_47 (Nat.lt_of_lt_of_le (by decide) (Nat.le_refl _)) (by decide) rfl rfl rfl dX2_follow_70 ?_
            refine g_ifB_ne h dX2_follow_73 (fun c73 => ?_) (fun c73 => ?_)
            ·
              have hst : stp μ to (gn (km - 1)) = some (rx (rts μ hr 6) to) := by rw [← hh]; exact stp_y ha c58 c73
              refine g_iload h dX2_follow_77 7 rfl ?_
              refine g_istore (L' := [(0, .ref (w.1 23)), (1, .ref (w.1 (mc m 0))), (2, .ref (w.1 20)), (3, .int (nI fr)), (4, .int (nI to)), (5, .int (nI (rx (rts μ hr 6) to))), (6, .int (nI km)), (7, .int (nI (rx (rts μ hr 6) to)))]) h dX2_follow_79 rfl (by decide) rfl ?_
              refine g_aload_n h dX2_follow_81 0 rfl ?_
              refine g_getr h dX2_follow_82 gX2_9 sc_23 rfl ?_
              refine g_iload h dX2_follow_85 6 rfl ?_
              refine g_iload h dX2_follow_87 5 rfl ?_
              refine g_iast h dX2_follow_89 sc_24 (by omega) ?_
              refine g_nm (fun σn eσn => ?_)
              have eσn : σn = upd (τ) (15170 + km) (nI (rx (rts μ hr 6) to)) := eσn
              have ht15020_σn : σn 15020 = (nI sp) := by rw [eσn, upd_ne (by first | omega | (simp only [vb] at *; omega))]; first | exact ht15020_τ | assumption
              have ht15021_σn : σn 15021 = (nI 1) := by rw [eσn, upd_ne (by first | omega | (simp only [vb] at *; omega))]; first | exact ht15021_τ | assumption
              have ht15022_σn : σn 15022 = been := by rw [eσn, upd_ne (by first | omega | (simp only [vb] at *; omega))]; first | exact ht15022_τ | assumption
              have hcCA_σn : CA σn μ := by rw [eσn]; exact CA.fr hcCA_τ hI (fun a ha hb => upd_ne (by first | omega | (simp only [vb] at *; omega)))
              have hcFR_σn : ∀ a, ((a < 15020 ∨ 15023 ≤ a) ∧ (a < 15170 ∨ 15179 ≤ a)) → σn a = σ a := by intro a ha; exact Eq.trans (b := (τ) a) (by rw [eσn, upd_ne (by first | omega | (simp only [vb] at *; omega))]) (hcFR_τ a ha)
              have hvσn : vw (vb m) σn = μ := by rw [eσn, vw_out (by first | omega | (simp only [vb] at *; omega))]; first | exact hvτ | assumption
              have hcGN_σn : GN 15170 σn (km + 1) (ru gn km (rx (rts μ hr 6) to)) := GN.more hcGN_τ eσn
              refine g_aload_n h dX2_follow_90 0 rfl ?_
              refine g_iload h dX2_follow_91 6 rfl ?_
              refine g_puti h dX2_follow_93 pX2_15 sc_23 rfl ?_
              refine g_nm (fun σ_4 eσ_4 => ?_)
              have eσ_4 : σ_4 = upd σn 15020 (nI km) := eσ_4
              have ht15020_σ_4 : σ_4 15020 = (nI km) := by rw [eσ_4]; exact upd_eq
              have ht15021_σ_4 : σ_4 15021 = (nI 1) := by rw [eσ_4, upd_ne (by first | omega | (simp only [vb] at *; omega))]; first | exact ht15021_σn | assumption
              have ht15022_σ_4 : σ_4 15022 = been := by rw [eσ_4, upd_ne (by first | omega | (simp only [vb] at *; omega))]; first | exact ht15022_σn | assumption
              have hcCA_σ_4 : CA σ_4 μ := by rw [eσ_4]; exact CA.fr hcCA_σn hI (fun a ha hb => upd_ne (by first | omega | (simp only [vb] at *; omega)))
              have hcFR_σ_4 : ∀ a, ((a < 15020 ∨ 15023 ≤ a) ∧ (a < 15170 ∨ 15179 ≤ a)) → σ_4 a = σ a := by intro a ha; exact Eq.trans (b := σn a) (by rw [eσ_4, upd_ne (by first | omega | (simp only [vb] at *; omega))]) (hcFR_σn a ha)
              have hcGN_σ_4 : GN 15170 σ_4 (km + 1) (ru gn km (rx (rts μ hr 6) to)) := by rw [eσ_4]; exact GN.fr hcGN_σn (fun a ha hb => upd_ne (by omega))
              have hvσ_4 : vw (vb m) σ_4 = μ := by rw [eσ_4, vw_out (by first | omega | (simp only [vb] at *; omega))]; first | exact hvσn | assumption
              refine g_iload h dX2_follow_96 5 rfl ?_
              refine g_iload h dX2_follow_98 4 rfl ?_
              refine g_icmpN_eq h dX2_follow_100 (by omega) (by omega) (fun c100 => ?_) (fun c100 => ?_)
              ·
                refine g_aload_n h dX2_follow_115 0 rfl ?_
                refine g_iload h dX2_follow_116 5 rfl ?_
                refine g_iload h dX2_follow_118 4 rfl ?_
                refine g_icmpN_ne h dX2_follow_120 (by omega) (by omega) (fun c120 => ?_) (fun c120 => ?_)
                ·
                  have hE : gnw μ fr to = (2, km + 1, ru gn km (rx (rts μ hr 6) to), been) := by first | (exfalso; omega) | (rw [← hg]; exact goR_back hst (by omega) (by omega) c112)
                  refine g_iconst h dX2_follow_127 (by decide) ?_
                  refine g_puti h dX2_follow_128 pX2_19 sc_23 rfl ?_
                  refine g_nm (fun σ_5 eσ_5 => ?_)
                  have eσ_5 : σ_5 = upd σ_4 15021 (nI 2) := eσ_5
                  have ht15020_σ_5 : σ_5 15020 = (nI km) := by rw [eσ_5, upd_ne (by first | omega | (simp only [vb] at *; omega))]; first | exact ht15020_σ_4 | assumption
                  have ht15021_σ_5 : σ_5 15021 = (nI 2) := by rw [eσ_5]; exact upd_eq
                  have ht15022_σ_5 : σ_5 15022 = been := by rw [eσ_5, upd_ne (by first | omega | (simp only [vb] at *; omega))]; first | exact ht15022_σ_4 | assumption
                  have hcCA_σ_5 : CA σ_5 μ := by rw [eσ_5]; exact CA.fr hcCA_σ_4 hI (fun a ha hb => upd_ne (by first | omega | (simp only [vb] at *; omega)))
                  have hcFR_σ_5 : ∀ a, ((a < 15020 ∨ 15023 ≤ a) ∧ (a < 15170 ∨ 15179 ≤ a)) → σ_5 a = σ a := by intro a ha; exact Eq.trans (b := σ_4 a) (by rw [eσ_5, upd_ne (by first | omega | (simp only [vb] at *; omega))]) (hcFR_σ_4 a ha)
                  have hcGN_σ_5 : GN 15170 σ_5 (km + 1) (ru gn km (rx (rts μ hr 6) to)) := by rw [eσ_5]; exact GN.fr hcGN_σ_4 (fun a ha hb => upd_ne (by omega))
                  have hvσ_5 : vw (vb m) σ_5 = μ := by rw [eσ_5, vw_out (by first | omega | (simp only [vb] at *; omega))]; first | exact hvσ_4 | assumption
                  exact g_vret h hQ dX2_follow_131 rfl (by exact ⟨(by rw [hE]; first | exact ht15020_σ_5 | (rw [show km - 1 = sp from by omega]; exact ht15020_σ_5)), (by rw [hE]; exact ht15021_σ_5), (by rw [hE]; exact ht15022_σ_5), (by first | exact hcCA_σ_5 | assumption | fail), (by rw [hE]; exact hcGN_σ_5), (by exact hcFR_σ_5)⟩)
                ·
                  have hE : gnw μ fr to = (0, km + 1, ru gn km (rx (rts μ hr 6) to), been) := by rw [← hg]; exact goR_to hst (by omega) (by omega)
                  refine g_iconst h dX2_follow_123 (by decide) ?_
                  refine g_goto h dX2_follow_124 ?_
                  refine g_puti h dX2_follow_128 pX2_19 sc_23 rfl ?_
                  refine g_nm (fun σ_6 eσ_6 => ?_)
                  have eσ_6 : σ_6 = upd σ_4 15021 (nI 0) := eσ_6
                  have ht15020_σ_6 : σ_6 15020 = (nI km) := by rw [eσ_6, upd_ne (by first | omega | (simp only [vb] at *; omega))]; first | exact ht15020_σ_4 | assumption
                  have ht15021_σ_6 : σ_6 15021 = (nI 0) := by rw [eσ_6]; exact upd_eq
                  have ht15022_σ_6 : σ_6 15022 = been := by rw [eσ_6, upd_ne (by first | omega | (simp only [vb] at *; omega))]; first | exact ht15022_σ_4 | assumption
                  have hcCA_σ_6 : CA σ_6 μ := by rw [eσ_6]; exact CA.fr hcCA_σ_4 hI (fun a ha hb => upd_ne (by first | omega | (simp only [vb] at *; omega)))
                  have hcFR_σ_6 : ∀ a, ((a < 15020 ∨ 15023 ≤ a) ∧ (a < 15170 ∨ 15179 ≤ a)) → σ_6 a = σ a := by intro a ha; exact Eq.trans (b := σ_4 a) (by rw [eσ_6, upd_ne (by first | omega | (simp only [vb] at *; omega))]) (hcFR_σ_4 a ha)
                  have hcGN_σ_6 : GN 15170 σ_6 (km + 1) (ru gn km (rx (rts μ hr 6) to)) := by rw [eσ_6]; exact GN.fr hcGN_σ_4 (fun a ha hb => upd_ne (by omega))
                  have hvσ_6 : vw (vb m) σ_6 = μ := by rw [eσ_6, vw_out (by first | omega | (simp only [vb] at *; omega))]; first | exact hvσ_4 | assumption
                  exact g_vret h hQ dX2_follow_131 rfl (by exact ⟨(by rw [hE]; first | exact ht15020_σ_6 | (rw [show km - 1 = sp from by omega]; exact ht15020_σ_6)), (by rw [hE]; exact ht15021_σ_6), (by rw [hE]; exact ht15022_σ_6), (by first | exact hcCA_σ_6 | assumption | fail), (by rw [hE]; exact hcGN_σ_6), (by exact hcFR_σ_6)⟩)
              ·
                refine g_aload_n h dX2_follow_103 0 rfl ?_
                refine g_geti h dX2_follow_104 gX2_28 sc_23 rfl ?_
                refine g_top (y := been) (by first | exact ht15022_σ_4 | assumption) ?_
                refine g_iload h dX2_follow_107 5 rfl ?_
                refine g_cspi (rest := []) h (c_has hW been (rx (rts μ hr 6) to) (by omega)) lX5_has mX2_47 (Nat.lt_of_lt_of_le (by decide) (Nat.le_refl _)) (by decide) rfl rfl rfl dX2_follow_109 ?_
                refine g_ifB_eq h dX2_follow_112 (fun c112 => ?_) (fun c112 => ?_)
                ·
                  refine g_aload_n h dX2_follow_132 0 rfl ?_
                  refine g_dup h dX2_follow_133 rfl ?_
                  refine g_geti h dX2_follow_134 gX2_28 sc_23 rfl ?_
                  refine g_top (y := been) (by first | exact ht15022_σ_4 | assumption) ?_
                  refine g_iload h dX2_follow_137 5 rfl ?_
                  refine g_cspi (rest := [.int been, .ref (w.1 23)]) h (c_bit hW (rx (rts μ hr 6) to) ) lX5_bit mX2_22 (Nat.lt_of_lt_of_le (by decide) (Nat.le_refl _)) (by decide) rfl rfl rfl dX2_follow_139 ?_
                  refine g_ior h dX2_follow_142  ?_
                  refine g_puti h dX2_follow_143 pX2_28 sc_23 rfl ?_
                  refine g_nm (fun σ_7 eσ_7 => ?_)
                  have eσ_7 : σ_7 = upd σ_4 15022 (been ||| (bt1 (rx (rts μ hr 6) to))) := eσ_7
                  have ht15020_σ_7 : σ_7 15020 = (nI km) := by rw [eσ_7, upd_ne (by first | omega | (simp only [vb] at *; omega))]; first | exact ht15020_σ_4 | assumption
                  have ht15021_σ_7 : σ_7 15021 = (nI 1) := by rw [eσ_7, upd_ne (by first | omega | (simp only [vb] at *; omega))]; first | exact ht15021_σ_4 | assumption
                  have ht15022_σ_7 : σ_7 15022 = (been ||| (bt1 (rx (rts μ hr 6) to))) := by rw [eσ_7]; exact upd_eq
                  have hcCA_σ_7 : CA σ_7 μ := by rw [eσ_7]; exact CA.fr hcCA_σ_4 hI (fun a ha hb => upd_ne (by first | omega | (simp only [vb] at *; omega)))
                  have hcFR_σ_7 : ∀ a, ((a < 15020 ∨ 15023 ≤ a) ∧ (a < 15170 ∨ 15179 ≤ a)) → σ_7 a = σ a := by intro a ha; exact Eq.trans (b := σ_4 a) (by rw [eσ_7, upd_ne (by first | omega | (simp only [vb] at *; omega))]) (hcFR_σ_4 a ha)
                  have hcGN_σ_7 : GN 15170 σ_7 (km + 1) (ru gn km (rx (rts μ hr 6) to)) := by rw [eσ_7]; exact GN.fr hcGN_σ_4 (fun a ha hb => upd_ne (by omega))
                  have hvσ_7 : vw (vb m) σ_7 = μ := by rw [eσ_7, vw_out (by first | omega | (simp only [vb] at *; omega))]; first | exact hvσ_4 | assumption
                  refine g_iincN (b := 1) (L' := [(0, .ref (w.1 23)), (1, .ref (w.1 (mc m 0))), (2, .ref (w.1 20)), (3, .int (nI fr)), (4, .int (nI to)), (5, .int (nI (rx (rts μ hr 6) to))), (6, .int (nI (km + 1))), (7, .int (nI (rx (rts μ hr 6) to)))]) h dX2_follow_146 6 rfl rfl (by decide) (by decide) rfl ?_
                  refine g_goto h dX2_follow_149 ?_
                  exact g_sub [0, 1, 2, 3, 4, 5, 6] rfl (ih31 (rx (rts μ hr 6) to) (km + 1) km (been ||| (bt1 (rx (rts μ hr 6) to))) (ru gn km (rx (rts μ hr 6) to)) σ_7 (by rw [← hg]; exact (goR_more hst (by omega) (by omega) c112).symm) (by rw [show km + 1 - 1 = km from rfl, ru_eq]) (by omega) (by omega) (by exact hn8) (by first | exact hvσ_7 | assumption | fail | fail) (by first | exact ht15020_σ_7 | assumption | fail | fail) (by first | exact ht15021_σ_7 | assumption | fail | fail) (by first | exact ht15022_σ_7 | assumption | fail | fail) (by first | exact hcCA_σ_7 | assumption | fail | fail) (by first | exact hcFR_σ_7 | assumption | fail | fail) (by first | exact hcGN_σ_7 | assumption | fail | fail) (by omega))
                ·
                  refine g_aload_n h dX2_follow_115 0 rfl ?_
                  refine g_iload h dX2_follow_116 5 rfl ?_
                  refine g_iload h dX2_follow_118 4 rfl ?_
                  refine g_icmpN_ne h dX2_follow_120 (by omega) (by omega) (fun c120 => ?_) (fun c120 => ?_)
                  ·
                    have hE : gnw μ fr to = (2, km + 1, ru gn km (rx (rts μ hr 6) to), been) := by first | (exfalso; omega) | (rw [← hg]; exact goR_back hst (by omega) (by omega) c112)
                    refine g_iconst h dX2_follow_127 (by decide) ?_
                    refine g_puti h dX2_follow_128 pX2_19 sc_23 rfl ?_
                    refine g_nm (fun σ_8 eσ_8 => ?_)
                    have eσ_8 : σ_8 = upd σ_4 15021 (nI 2) := eσ_8
                    have ht15020_σ_8 : σ_8 15020 = (nI km) := by rw [eσ_8, upd_ne (by first | omega | (simp only [vb] at *; omega))]; first | exact ht15020_σ_4 | assumption
                    have ht15021_σ_8 : σ_8 15021 = (nI 2) := by rw [eσ_8]; exact upd_eq
                    have ht15022_σ_8 : σ_8 15022 = been := by rw [eσ_8, upd_ne (by first | omega | (simp only [vb] at *; omega))]; first | exact ht15022_σ_4 | assumption
                    have hcCA_σ_8 : CA σ_8 μ := by rw [eσ_8]; exact CA.fr hcCA_σ_4 hI (fun a ha hb => upd_ne (by first | omega | (simp only [vb] at *; omega)))
                    have hcFR_σ_8 : ∀ a, ((a < 15020 ∨ 15023 ≤ a) ∧ (a < 15170 ∨ 15179 ≤ a)) → σ_8 a = σ a := by intro a ha; exact Eq.trans (b := σ_4 a) (by rw [eσ_8, upd_ne (by first | omega | (simp only [vb] at *; omega))]) (hcFR_σ_4 a ha)
                    have hcGN_σ_8 : GN 15170 σ_8 (km + 1) (ru gn km (rx (rts μ hr 6) to)) := by rw [eσ_8]; exact GN.fr hcGN_σ_4 (fun a ha hb => upd_ne (by omega))
                    have hvσ_8 : vw (vb m) σ_8 = μ := by rw [eσ_8, vw_out (by first | omega | (simp only [vb] at *; omega))]; first | exact hvσ_4 | assumption
                    exact g_vret h hQ dX2_follow_131 rfl (by exact ⟨(by rw [hE]; first | exact ht15020_σ_8 | (rw [show km - 1 = sp from by omega]; exact ht15020_σ_8)), (by rw [hE]; exact ht15021_σ_8), (by rw [hE]; exact ht15022_σ_8), (by first | exact hcCA_σ_8 | assumption | fail), (by rw [hE]; exact hcGN_σ_8), (by exact hcFR_σ_8)⟩)
                  ·
                    have hE : gnw μ fr to = (0, km + 1, ru gn km (rx (rts μ hr 6) to), been) := by rw [← hg]; exact goR_to hst (by omega) (by omega)
                    refine g_iconst h dX2_follow_123 (by decide) ?_
                    refine g_goto h dX2_follow_124 ?_
                    refine g_puti h dX2_follow_128 pX2_19 sc_23 rfl ?_
                    refine g_nm (fun σ_9 eσ_9 => ?_)
                    have eσ_9 : σ_9 = upd σ_4 15021 (nI 0) := eσ_9
                    have ht15020_σ_9 : σ_9 15020 = (nI km) := by rw [eσ_9, upd_ne (by first | omega | (simp only [vb] at *; omega))]; first | exact ht15020_σ_4 | assumption
                    have ht15021_σ_9 : σ_9 15021 = (nI 0) := by rw [eσ_9]; exact upd_eq
                    have ht15022_σ_9 : σ_9 15022 = been := by rw [eσ_9, upd_ne (by first | omega | (simp only [vb] at *; omega))]; first | exact ht15022_σ_4 | assumption
                    have hcCA_σ_9 : CA σ_9 μ := by rw [eσ_9]; exact CA.fr hcCA_σ_4 hI (fun a ha hb => upd_ne (by first | omega | (simp only [vb] at *; omega)))
                    have hcFR_σ_9 : ∀ a, ((a < 15020 ∨ 15023 ≤ a) ∧ (a < 15170 ∨ 15179 ≤ a)) → σ_9 a = σ a := by intro a ha; exact Eq.trans (b := σ_4 a) (by rw [eσ_9, upd_ne (by first | omega | (simp only [vb] at *; omega))]) (hcFR_σ_4 a ha)
                    have hcGN_σ_9 : GN 15170 σ_9 (km + 1) (ru gn km (rx (rts μ hr 6) to)) := by rw [eσ_9]; exact GN.fr hcGN_σ_4 (fun a ha hb => upd_ne (by omega))
                    have hvσ_9 : vw (vb m) σ_9 = μ := by rw [eσ_9, vw_out (by first | omega | (simp only [vb] at *; omega))]; first | exact hvσ_4 | assumption
                    exact g_vret h hQ dX2_follow_131 rfl (by exact ⟨(by rw [hE]; first | exact ht15020_σ_9 | (rw [show km - 1 = sp from by omega]; exact ht15020_σ_9)), (by rw [hE]; exact ht15021_σ_9), (by rw [hE]; exact ht15022_σ_9), (by first | exact hcCA_σ_9 | assumption | fail), (by rw [hE]; exact hcGN_σ_9), (by exact hcFR_σ_9)⟩)
            ·
              have hE : gnw μ fr to = (1, km, gn, been) := by rw [← hg]; first | exact goR_none (by rw [← hh]; exact stp_0 ha) (by omega) | exact goR_none (by rw [← hh]; exact stp_1 c58) (by omega) | exact goR_none (by rw [← hh]; exact stp_2 c73) (by omega)
              exact g_vret h hQ dX2_follow_76 rfl (by exact ⟨(by rw [hE]; first | exact ht15020_τ | (rw [show km - 1 = sp from by omega]; exact ht15020_τ)), (by rw [hE]; exact ht15021_τ), (by rw [hE]; exact ht15022_τ), (by first | exact hcCA_τ | assumption | fail), (by rw [hE]; exact hcGN_τ), (by exact hcFR_τ)⟩)
  exact lp31 (_) fr 1 0 (bt1 fr) (fun _ => fr) σ_3 (by rfl) (by rfl) (by omega) (by omega) (by exact hf) (by first | exact hvσ_3 | assumption | fail | fail) (by first | exact ht15020_σ_3 | assumption | fail | fail) (by first | exact ht15021_σ_3 | assumption | fail | fail) (by first | exact ht15022_σ_3 | assumption | fail | fail) (by first | exact hcCA_σ_3 | assumption | fail | fail) (by first | exact hcFR_σ_3 | assumption | fail | fail) (by first | exact hcGN_σ_3 | assumption | fail | fail) (Nat.lt_succ_self _)

set_option maxRecDepth 100000 in
set_option maxHeartbeats 4000000 in
theorem c_end {l : Launch} {w : Wd} (hW : Wi w) {σ : Mem} (k : Nat) (gn : Nat → Nat) (hk : 1 ≤ k ∧ k ≤ 9) (ht15020_σ : σ 15020 = (nI (k - 1))) (hcGN_σ : GN 15170 σ k gn) : MC l w qX2_end 0 [.ref (w.1 23)] σ (some (.int (nI (gn (k - 1))))) (fun σ' => σ' = σ) := by
  refine MC.of hW (by decide +kernel) (Nat.le_of_ble_eq_true rfl) (fun X h hQ hnm => ?_)
  have h : Fx X w cX2_end 1 RX2 0 := h
  have hQ : Qx X w (some .int) (some (.int (nI (gn (k - 1))))) (fun σ' => σ' = σ) := hQ
  show G X w 1 0 [(0, .ref (w.1 23))] [] σ
  refine g_aload_n h dX2_end_0 0 rfl ?_
  refine g_geti h dX2_end_1 gX2_15 sc_23 rfl ?_
  refine g_top (y := (nI (k - 1))) (by first | exact ht15020_σ | assumption) ?_
  refine g_ifN_lt h dX2_end_4 (by omega) ?_
  refine g_aload_n h dX2_end_7 0 rfl ?_
  refine g_geti h dX2_end_8 gX2_15 sc_23 rfl ?_
  refine g_top (y := (nI (k - 1))) (by first | exact ht15020_σ | assumption) ?_
  refine g_bipush h dX2_end_11 (by decide) ?_
  refine g_icmpN_gt h dX2_end_13 (by omega) (by omega) (fun c13 => ?_) (fun c13 => ?_)
  ·
    exfalso; omega
  ·
    refine g_aload_n h dX2_end_16 0 rfl ?_
    refine g_getr h dX2_end_17 gX2_9 sc_23 rfl ?_
    refine g_aload_n h dX2_end_20 0 rfl ?_
    refine g_geti h dX2_end_21 gX2_15 sc_23 rfl ?_
    refine g_top (y := (nI (k - 1))) (by first | exact ht15020_σ | assumption) ?_
    refine g_iald h dX2_end_24 sc_24 (by omega) ?_
    refine g_top (y := (nI (gn (k - 1)))) (hcGN_σ (k - 1) (by omega)) ?_
    refine g_goto h dX2_end_25 ?_
    exact g_iret h hQ dX2_end_29 rfl rfl
