theorem sb8_nI : ∀ b, b < 256 → sb 8 (nI b) := fun b hb k hk => by
  by_cases c : k < 32
  · have key : ∀ b, b < 256 → ∀ k, k < 32 → 8 ≤ k → tb (nI b) k = false := by decide +kernel
    exact key b hb k c hk
  · exact tb_big (by omega)
theorem lst_ex {μ : Nat → Int32} {i : Nat} (hI : MI μ) : ∃ b, b < 256 ∧ lst μ i = nI b := by
  obtain ⟨wn, hwn, ew⟩ := s8_ex (sb_wil (i := i) hI)
  obtain ⟨b, hb, _⟩ := lsO_min hwn (srv_wil ew)
  refine ⟨b, lsO_lt hb, ?_⟩
  unfold lst
  rw [hb]
  rfl
theorem sb_lst {μ : Nat → Int32} {i : Nat} (hI : MI μ) : sb 8 (lst μ i) := by
  obtain ⟨b, hb, e⟩ := lst_ex (i := i) hI
  rw [e]
  exact sb8_nI b hb
def wasS (μ : Nat → Int32) : Nat → Int32
  | 0 => nI 0
  | n + 1 => if tb (μ 1) n = true then wasS μ n + (nI (pc (μ (48 + n))) - nI (pc (lst μ n))) else wasS μ n
theorem ne_of_bb {p q : Bool} (h : (p != q) = true) : ¬ p = q := by simpa using h
theorem add_n0 {x : Int32} : x + nI 0 = x := Int32.add_zero x
theorem bt1_pow {n : Nat} (h : n ≤ 8) : bt1 n = nI (2 ^ n) := by
  have key : ∀ n, n ≤ 8 → bt1 n = nI (2 ^ n) := by decide
  exact key n h
def sbO (μ : Nat → Int32) : Nat → Option Nat
  | 0 => none
  | n + 1 => match sbO μ n with
    | none => if bkB μ (nI n) = true then some n else none
    | some b => if (decide (pc (nI n) < pc (nI b)) && bkB μ (nI n)) = true then some n else some b
theorem sbO_lt {μ : Nat → Int32} : ∀ {n b : Nat}, sbO μ n = some b → b < n
  | 0, b, h => by cases h
  | n + 1, b, h => by
    simp only [sbO] at h
    cases q : sbO μ n with
    | none =>
      rw [q] at h
      dsimp only at h
      split at h
      · cases h; omega
      · cases h
    | some c =>
      rw [q] at h
      have := sbO_lt q
      dsimp only at h
      split at h
      · cases h; omega
      · cases h; omega
theorem sm_sb {μ : Nat → Int32} : ∀ n, smB μ n = match sbO μ n with
    | none => (0, 9)
    | some b => (b, pc (nI b))
  | 0 => rfl
  | n + 1 => by
    have ih := sm_sb (μ := μ) n
    have h8 := pc_le (nI n)
    simp only [smB, sbO]
    rw [ih]
    cases q : sbO μ n with
    | none =>
      dsimp only
      rw [show decide (pc (nI n) < 9) = true from decide_eq_true (by omega), Bool.true_and]
      split <;> rfl
    | some b =>
      dsimp only
      split <;> rfl
theorem sb_more {μ : Nat → Int32} (hI : MI μ) : ∀ k, 2 ^ nN μ + k ≤ 256 → sbO μ (2 ^ nN μ + k) = sbO μ (2 ^ nN μ)
  | 0, _ => rfl
  | k + 1, hk => by
    have ih := sb_more hI k (by omega)
    have hb : bkB μ (nI (2 ^ nN μ + k)) = false := by
      apply bk_off
      intro e
      have h8 := mi_8 hI
      have key : ∀ n, n < 9 → ∀ x, x < 256 → 2 ^ n ≤ x → anyB (fun q => decide (n ≤ q) && tb (nI x) q) 8 = true := by decide +kernel
      obtain ⟨q, h1, h23⟩ := anyB_iff.mp (key (nN μ) (by omega) (2 ^ nN μ + k) (by omega) (by omega))
      rw [Bool.and_eq_true] at h23
      have h2 : nN μ ≤ q := of_decide_eq_true h23.1
      have h3 := h23.2
      have q1 : tb (nI (2 ^ nN μ + k) &&& nots (μ 1)) q = false := by rw [e, tb_0]
      rw [tb_and, tb_nots (by omega), h3, ms_on hI q h2] at q1
      cases q1
    rw [← Nat.add_assoc]
    simp only [sbO]
    rw [ih]
    cases q : sbO μ (2 ^ nN μ) with
    | none =>
      dsimp only
      rw [if_neg (by rw [hb]; decide)]
    | some b =>
      dsimp only
      rw [hb, Bool.and_false, if_neg (by decide)]
theorem sm_o0 {μ : Nat → Int32} (hI : MI μ) : (smB μ 256).1 = o0 (sbO μ (2 ^ nN μ)) := by
  have h8 := mi_8 hI
  have hp : 2 ^ nN μ ≤ 256 := Nat.pow_le_pow_right (n := 2) (by decide) h8
  have := sb_more hI (256 - 2 ^ nN μ) (by omega)
  rw [show 2 ^ nN μ + (256 - 2 ^ nN μ) = 256 from by omega] at this
  rw [sm_sb, this]
  cases sbO μ (2 ^ nN μ) <;> rfl
def v_spine (μ : Nat → Int32) (wt : Nat) : Int32 := if wt = 0 then spn μ else if wt = 1 then b2i (bkB μ (spn μ)) else nI (smB μ 256).1
def v_flood (μ : Nat → Int32) (i wt : Nat) : Int32 := if wt % 2 = 0 then (flS i (decide (1 < wt)) false 0 μ 0 (nI 0)).2.2.2.1 else nI (flS i (decide (1 < wt)) false 0 μ 0 (nI 0)).2.1

set_option maxRecDepth 100000 in
set_option maxHeartbeats 4000000 in
theorem q_waste {l : Launch} {w : Wd} (hW : Wi w) {σ : Mem} (μ : Nat → Int32) (hv : vw 0 σ = μ) (hI : MI μ) : MC l w qX12_waste 4 [.ref (w.1 0)] σ (some (.int (an (0) (wasS μ (nN μ))))) (fun σ' => (σ' 4000 = (nI 0)) ∧ (∀ a, ((a < 4900 ∨ 6000 ≤ a) ∧ a ≠ 4000) → σ' a = σ a)) := by
  refine MC.of hW (by decide +kernel) (Nat.le_of_ble_eq_true rfl) (fun X h hQ hnm => ?_)
  have h : Fx X w cX12_waste 3 RX12 4 := h
  have hQ : Qx X w (some .int) (some (.int (an (0) (wasS μ (nN μ))))) (fun σ' => (σ' 4000 = (nI 0)) ∧ (∀ a, ((a < 4900 ∨ 6000 ≤ a) ∧ a ≠ 4000) → σ' a = σ a)) := hQ
  have hN8 := mi_8 hI
  have hcFR_σ : ∀ a, ((a < 4900 ∨ 6000 ≤ a) ∧ a ≠ 4000) → σ a = σ a := fun _ _ => rfl
  show G X w 3 0 [(0, .ref (w.1 0))] [] σ
  refine g_iconst h dX12_waste_0 (by decide) ?_
  refine g_istore_n (L' := [(0, .ref (w.1 0)), (1, .int (nI 0))]) h dX12_waste_1 rfl (by decide) rfl ?_
  refine g_iconst h dX12_waste_2 (by decide) ?_
  refine g_istore_n (L' := [(0, .ref (w.1 0)), (1, .int (nI 0)), (2, .int (nI 0))]) h dX12_waste_3 rfl (by decide) rfl ?_
  have lp4 : ∀ (k9 : Nat) (s : Int32) (i : Nat), (s = wasS μ i) → (i ≤ nN μ) → nN μ - i < k9 → G X w 3 4 [(0, .ref (w.1 0)), (1, .int s), (2, .int (nI i))] [] σ := by
    intro k9
    induction k9 with
    | zero => intro s i hs hi hm9; exact absurd hm9 (Nat.not_lt_zero _)
    | succ k9 ih4 =>
      intro s i hs hi hm4
      refine g_iload_n h dX12_waste_4 2 rfl ?_
      refine g_aload_n h dX12_waste_5 0 rfl ?_
      refine g_iconst h dX12_waste_6 (by decide) ?_
      refine g_cvpi (rest := [.int (nI i)]) h (r_of hW 0 μ (by assumption) (by omega)) lX12_of mX12_61 (Nat.lt_of_lt_of_le (by decide) (Nat.le_refl _)) (by decide) sc_0 rfl rfl rfl rfl dX12_waste_7 ?_
      refine g_top (y := nI (nN μ)) (mi_0 (by assumption)) ?_
      refine g_icmpN_ge h dX12_waste_10 (by omega) (by omega) (fun c10 => ?_) (fun c10 => ?_)
      ·
        refine g_aload_n h dX12_waste_54 0 rfl ?_
        refine g_iload_n h dX12_waste_55 1 rfl ?_
        refine g_cvi (rest := []) h (r_gives hW s ) lX12_gives mX12_281 (Nat.lt_of_lt_of_le (by decide) (Nat.le_refl _)) (by decide) sc_0 rfl rfl rfl rfl dX12_waste_56 (fun σ_1 eσ_1 => ?_)
        have eσ_1_a : σ_1 = upd σ 4000 (nI 0) := eσ_1
        have ht4000_σ_1 : σ_1 4000 = (nI 0) := by rw [eσ_1_a]; exact upd_eq
        have hcFR_σ_1 : ∀ a, ((a < 4900 ∨ 6000 ≤ a) ∧ a ≠ 4000) → σ_1 a = σ a := by intro a ha; exact Eq.trans (b := σ a) (by rw [eσ_1_a, upd_ne (by first | omega | (simp only [vb] at *; omega))]) (hcFR_σ a ha)
        have hvσ_1 : vw 0 σ_1 = μ := by rw [eσ_1_a, vw_out (by omega)]; first | exact hv | assumption
        exact g_iret h hQ dX12_waste_59 (congrArg (fun z => some (Value.int z)) (show (an (0) (wasS μ (nN μ))) = s by first | exact an_yes (by first | rfl | (simp [fo, rg, ns, nB, ps, gst, ofS, offB, c10]; done) | (simp [fo, rg, ns, nB, ps, gst, ofS, offB, c10]; omega)) (by rw [hs, show i = nN μ from by omega]) | exact an_no (k := 0) (by first | rfl | (simp [fo, rg, ns, nB, ps, gst, ofS, offB, c10]; done) | (simp [fo, rg, ns, nB, ps, gst, ofS, offB, c10]; omega)) (by first | decide | omega | assumption | exact nb1 (by assumption)) | fail)) (by exact ⟨(by first | exact tk_eq (k := 0) (by first | rfl | (simp [fo, rg, ns, nB, ps, gst, ofS, offB, c10]; done) | (simp [fo, rg, ns, nB, ps, gst, ofS, offB, c10]; omega)) ht4000_σ_1 | exact tk_eq (k := 0) (by first | rfl | (simp [fo, rg, ns, nB, ps, gst, ofS, offB, c10]; done) | (simp [fo, rg, ns, nB, ps, gst, ofS, offB, c10]; omega)) ht4000_σ_1 | fail), (by exact hcFR_σ_1)⟩)
      ·
        refine g_iload_n h dX12_waste_13 1 rfl ?_
        refine g_aload_n h dX12_waste_14 0 rfl ?_
        refine g_iload_n h dX12_waste_15 2 rfl ?_
        refine g_cvpi (rest := [.int s]) h (r_isOn hW i μ (by assumption) (by omega)) lX12_isOn mX12_114 (Nat.lt_of_lt_of_le (by decide) (Nat.le_refl _)) (by decide) sc_0 rfl rfl rfl rfl dX12_waste_16 ?_
        refine g_ifB_eq h dX12_waste_19 (fun c19 => ?_) (fun c19 => ?_)
        ·
          refine g_iconst h dX12_waste_45 (by decide) ?_
          refine g_iadd h dX12_waste_46  ?_
          refine g_istore_n (L' := [(0, .ref (w.1 0)), (1, .int (s + (nI 0))), (2, .int (nI i))]) h dX12_waste_47 rfl (by decide) rfl ?_
          refine g_iincN (b := 1) (L' := [(0, .ref (w.1 0)), (1, .int (s + (nI 0))), (2, .int (nI (i + 1)))]) h dX12_waste_48 2 rfl rfl (by decide) (by decide) rfl ?_
          refine g_goto h dX12_waste_51 ?_
          exact ih4 (s + (nI 0)) (i + 1) (by simp [wasS, ← hs, c10, c19, add_n0]) (by omega) (by omega)
        ·
          refine g_aload_n h dX12_waste_22 0 rfl ?_
          refine g_bipush h dX12_waste_23 (by decide) ?_
          refine g_iload_n h dX12_waste_25 2 rfl ?_
          refine g_iaddN h dX12_waste_26  ?_
          refine g_cvpi (rest := [.int s]) h (r_of hW (48 + i) μ (by assumption) (by omega)) lX12_of mX12_61 (Nat.lt_of_lt_of_le (by decide) (Nat.le_refl _)) (by decide) sc_0 rfl rfl rfl rfl dX12_waste_27 ?_
          refine g_cspi (rest := [.int s]) h (r_bits hW (μ (48 + i)) (by exact ms_rel hI (by omega))) lX12_bits mX12_83 (Nat.lt_of_lt_of_le (by decide) (Nat.le_refl _)) (by decide) rfl rfl rfl dX12_waste_30 ?_
          have p9_30 := pc_le (μ (48 + i))
          refine g_aload_n h dX12_waste_33 0 rfl ?_
          refine g_iload_n h dX12_waste_34 2 rfl ?_
          refine g_cvpi (rest := [.int (nI (pc (μ (48 + i)))), .int s]) h (r_leastOf hW i μ (by first | exact hv | assumption | fail) (by assumption) (by omega)) lX12_leastOf mX12_293 (Nat.lt_of_lt_of_le (by decide) (Nat.le_refl _)) (by decide) sc_0 rfl rfl rfl rfl dX12_waste_35 ?_
          refine g_cspi (rest := [.int (nI (pc (μ (48 + i)))), .int s]) h (r_bits hW (lst μ i) (by exact sb_lst hI)) lX12_bits mX12_83 (Nat.lt_of_lt_of_le (by decide) (Nat.le_refl _)) (by decide) rfl rfl rfl dX12_waste_38 ?_
          have p9_38 := pc_le (lst μ i)
          refine g_isub h dX12_waste_41  ?_
          refine g_goto h dX12_waste_42 ?_
          refine g_iadd h dX12_waste_46  ?_
          refine g_istore_n (L' := [(0, .ref (w.1 0)), (1, .int (s + ((nI (pc (μ (48 + i)))) - (nI (pc (lst μ i)))))), (2, .int (nI i))]) h dX12_waste_47 rfl (by decide) rfl ?_
          refine g_iincN (b := 1) (L' := [(0, .ref (w.1 0)), (1, .int (s + ((nI (pc (μ (48 + i)))) - (nI (pc (lst μ i)))))), (2, .int (nI (i + 1)))]) h dX12_waste_48 2 rfl rfl (by decide) (by decide) rfl ?_
          refine g_goto h dX12_waste_51 ?_
          exact ih4 (s + ((nI (pc (μ (48 + i)))) - (nI (pc (lst μ i))))) (i + 1) (by simp [wasS, ← hs, c10, c19, add_n0]) (by omega) (by omega)
  exact lp4 (_) (nI 0) 0 (by rfl) (by omega) (Nat.lt_succ_self _)

set_option maxRecDepth 100000 in
set_option maxHeartbeats 4000000 in
theorem p_waste {l : Launch} {w : Wd} (hW : Wi w) {σ : Mem} (μ : Nat → Int32) (hv : vw (vb 0) σ = μ) (hI : MI μ) : MC l w qX11_waste 4 [.ref (w.1 12)] σ (some (.int (an (0) (wasS μ (nN μ))))) (fun σ' => (σ' 14000 = (nI 0)) ∧ (∀ a, (a < 14900 ∧ a ≠ 14000) → σ' a = σ a)) := by
  refine MC.of hW (by decide +kernel) (Nat.le_of_ble_eq_true rfl) (fun X h hQ hnm => ?_)
  have h : Fx X w cX11_waste 3 RX11 4 := h
  have hQ : Qx X w (some .int) (some (.int (an (0) (wasS μ (nN μ))))) (fun σ' => (σ' 14000 = (nI 0)) ∧ (∀ a, (a < 14900 ∧ a ≠ 14000) → σ' a = σ a)) := hQ
  have hN8 := mi_8 hI
  have hcFR_σ : ∀ a, (a < 14900 ∧ a ≠ 14000) → σ a = σ a := fun _ _ => rfl
  show G X w 3 0 [(0, .ref (w.1 12))] [] σ
  refine g_aload_n h dX11_waste_0 0 rfl ?_
  refine g_iconst h dX11_waste_1 (by decide) ?_
  refine g_puti h dX11_waste_2 pX11_92 sc_12 rfl ?_
  refine g_nm (fun σ_1 eσ_1 => ?_)
  have eσ_1 : σ_1 = upd σ 14000 (nI 0) := eσ_1
  have ht14000_σ_1 : σ_1 14000 = (nI 0) := by rw [eσ_1]; exact upd_eq
  have hcFR_σ_1 : ∀ a, (a < 14900 ∧ a ≠ 14000) → σ_1 a = σ a := by intro a ha; exact Eq.trans (b := σ a) (by rw [eσ_1, upd_ne (by first | omega | (simp only [vb] at *; omega))]) (hcFR_σ a ha)
  have hvσ_1 : vw (vb 0) σ_1 = μ := by rw [eσ_1, vw_out (by first | omega | (simp only [vb] at *; omega))]; first | exact hv | assumption
  refine g_iconst h dX11_waste_5 (by decide) ?_
  refine g_istore_n (L' := [(0, .ref (w.1 12)), (1, .int (nI 0))]) h dX11_waste_6 rfl (by decide) rfl ?_
  refine g_iconst h dX11_waste_7 (by decide) ?_
  refine g_istore_n (L' := [(0, .ref (w.1 12)), (1, .int (nI 0)), (2, .int (nI 0))]) h dX11_waste_8 rfl (by decide) rfl ?_
  have lp9 : ∀ (k9 : Nat) (s : Int32) (i : Nat), (s = wasS μ i) → (i ≤ nN μ) → nN μ - i < k9 → G X w 3 9 [(0, .ref (w.1 12)), (1, .int s), (2, .int (nI i))] [] σ_1 := by
    intro k9
    induction k9 with
    | zero => intro s i hs hi hm9; exact absurd hm9 (Nat.not_lt_zero _)
    | succ k9 ih9 =>
      intro s i hs hi hm9
      refine g_iload_n h dX11_waste_9 2 rfl ?_
      refine g_aload_n h dX11_waste_10 0 rfl ?_
      refine g_getr h dX11_waste_11 gX11_23 sc_12 rfl ?_
      refine g_geti h dX11_waste_14 gX11_120 (sM_0 (m := 0) (by decide)) rfl ?_
      refine g_top (y := μ 0) (vw_pic (b := (vb 0)) (k := 0) (by first | exact hvσ_1 | assumption) (by omega)) ?_
      refine g_top (y := nI (nN μ)) (mi_0 (by assumption)) ?_
      refine g_icmpN_ge h dX11_waste_17 (by omega) (by omega) (fun c17 => ?_) (fun c17 => ?_)
      ·
        refine g_iload_n h dX11_waste_67 1 rfl ?_
        exact g_iret h hQ dX11_waste_68 (congrArg (fun z => some (Value.int z)) (show (an (0) (wasS μ (nN μ))) = s by first | exact an_yes (by first | rfl | (simp [fo, rg, ns, nB, ps, gst, ofS, offB, c17]; done) | (simp [fo, rg, ns, nB, ps, gst, ofS, offB, c17]; omega)) (by rw [hs, show i = nN μ from by omega]) | exact an_no (k := 0) (by first | rfl | (simp [fo, rg, ns, nB, ps, gst, ofS, offB, c17]; done) | (simp [fo, rg, ns, nB, ps, gst, ofS, offB, c17]; omega)) (by first | decide | omega | assumption | exact nb1 (by assumption)) | fail)) (by exact ⟨(by first | exact tk_eq (k := 0) (by first | rfl | (simp [fo, rg, ns, nB, ps, gst, ofS, offB, c17]; done) | (simp [fo, rg, ns, nB, ps, gst, ofS, offB, c17]; omega)) ht14000_σ_1 | exact tk_eq (k := 0) (by first | rfl | (simp [fo, rg, ns, nB, ps, gst, ofS, offB, c17]; done) | (simp [fo, rg, ns, nB, ps, gst, ofS, offB, c17]; omega)) ht14000_σ_1 | fail), (by exact hcFR_σ_1)⟩)
      ·
        refine g_aload_n h dX11_waste_20 0 rfl ?_
        refine g_getr h dX11_waste_21 gX11_23 sc_12 rfl ?_
        refine g_iload_n h dX11_waste_24 2 rfl ?_
        refine g_cvpi (rest := []) h (c_isOnJ hW i 0 μ (by first | omega | decide | fail) (by first | exact hvσ_1 | assumption | fail) (by assumption) (by omega)) lX5_isOn mX11_167 (Nat.lt_of_lt_of_le (by decide) (Nat.le_refl _)) (by decide) (sM_0 (m := 0) (by decide)) rfl rfl rfl rfl dX11_waste_25 ?_
        refine g_ifB_eq h dX11_waste_28 (fun c28 => ?_) (fun c28 => ?_)
        ·
          refine g_iincN (b := 1) (L' := [(0, .ref (w.1 12)), (1, .int s), (2, .int (nI (i + 1)))]) h dX11_waste_61 2 rfl rfl (by decide) (by decide) rfl ?_
          refine g_goto h dX11_waste_64 ?_
          exact ih9 s (i + 1) (by simp [wasS, ← hs, c17, c28]) (by omega) (by omega)
        ·
          refine g_iload_n h dX11_waste_31 1 rfl ?_
          refine g_aload_n h dX11_waste_32 0 rfl ?_
          refine g_getr h dX11_waste_33 gX11_23 sc_12 rfl ?_
          refine g_getr h dX11_waste_36 gX11_181 (sM_0 (m := 0) (by decide)) rfl ?_
          refine g_getr h dX11_waste_39 gX11_197 (sM_4 (m := 0) (by decide)) rfl ?_
          refine g_iload_n h dX11_waste_42 2 rfl ?_
          refine g_iald h dX11_waste_43 (sM_10 (m := 0) (by decide)) (by omega) ?_
          refine g_top (y := μ (48 + i)) (vw_pic (b := (vb 0)) (k := 48 + i) (by first | exact hvσ_1 | assumption) (by omega)) ?_
          refine g_cspi (rest := [.int s]) h (j_bc hW (μ (48 + i)) (by exact ms_rel hI (by omega))) lJ6_bitCount_0f7a4 mX11_264 (Nat.lt_of_lt_of_le (by decide) (Nat.le_refl _)) (by decide) rfl rfl rfl dX11_waste_44 ?_
          have p9_44 := pc_le (μ (48 + i))
          refine g_aload_n h dX11_waste_47 0 rfl ?_
          refine g_getr h dX11_waste_48 gX11_23 sc_12 rfl ?_
          refine g_iload_n h dX11_waste_51 2 rfl ?_
          refine g_cspi (rest := [.int (nI (pc (μ (48 + i)))), .int s]) h (c_fewest hW i 0 μ (by first | omega | decide | fail) (by first | exact hvσ_1 | assumption | fail) (by assumption) (by omega)) lX0_fewest mX11_250 (Nat.lt_of_lt_of_le (by decide) (Nat.le_refl _)) (by decide) rfl rfl rfl dX11_waste_52 ?_
          refine g_cspi (rest := [.int (nI (pc (μ (48 + i)))), .int s]) h (j_bc hW (lst μ i) (by exact sb_lst hI)) lJ6_bitCount_0f7a4 mX11_264 (Nat.lt_of_lt_of_le (by decide) (Nat.le_refl _)) (by decide) rfl rfl rfl dX11_waste_55 ?_
          have p9_55 := pc_le (lst μ i)
          refine g_isub h dX11_waste_58  ?_
          refine g_iadd h dX11_waste_59  ?_
          refine g_istore_n (L' := [(0, .ref (w.1 12)), (1, .int (s + ((nI (pc (μ (48 + i)))) - (nI (pc (lst μ i)))))), (2, .int (nI i))]) h dX11_waste_60 rfl (by decide) rfl ?_
          refine g_iincN (b := 1) (L' := [(0, .ref (w.1 12)), (1, .int (s + ((nI (pc (μ (48 + i)))) - (nI (pc (lst μ i)))))), (2, .int (nI (i + 1)))]) h dX11_waste_61 2 rfl rfl (by decide) (by decide) rfl ?_
          refine g_goto h dX11_waste_64 ?_
          exact ih9 (s + ((nI (pc (μ (48 + i)))) - (nI (pc (lst μ i))))) (i + 1) (by simp [wasS, ← hs, c17, c28]) (by omega) (by omega)
  exact lp9 (_) (nI 0) 0 (by rfl) (by omega) (Nat.lt_succ_self _)

set_option maxRecDepth 100000 in
set_option maxHeartbeats 4000000 in
theorem q_proves {l : Launch} {w : Wd} (hW : Wi w) {σ : Mem} (i : Int32) (j : Int32) (hd : Int32) (n : Int32) (wt : Int32)  (μ : Nat → Int32) (hv : vw 0 σ = μ) (hI : MI μ) : MC l w qX12_proves 3 [.ref (w.1 0), .int i, .int j, .int hd, .int n, .int wt] σ (some (.int (an (fo (fo (rg n (nI 1) (nI 30)) (rg wt (nI 0) (nI 2))) (ps μ i j)) (v_proves (v_prv μ (nA μ (80 + (8 * toN i + toN j))) (tb (μ (56 + toN i)) (toN j)) hd (toN n)) (toN wt))))) (fun σ' => (σ' 4000 = (nI (fo (fo (rg n (nI 1) (nI 30)) (rg wt (nI 0) (nI 2))) (ps μ i j)))) ∧ (∀ a, ((a < 4900 ∨ 6000 ≤ a) ∧ a ≠ 4000) → σ' a = σ a)) := by
  refine MC.of hW (by decide +kernel) (Nat.le_of_ble_eq_true rfl) (fun X h hQ hnm => ?_)
  have h : Fx X w cX12_proves 12 RX12 3 := h
  have hQ : Qx X w (some .int) (some (.int (an (fo (fo (rg n (nI 1) (nI 30)) (rg wt (nI 0) (nI 2))) (ps μ i j)) (v_proves (v_prv μ (nA μ (80 + (8 * toN i + toN j))) (tb (μ (56 + toN i)) (toN j)) hd (toN n)) (toN wt))))) (fun σ' => (σ' 4000 = (nI (fo (fo (rg n (nI 1) (nI 30)) (rg wt (nI 0) (nI 2))) (ps μ i j)))) ∧ (∀ a, ((a < 4900 ∨ 6000 ≤ a) ∧ a ≠ 4000) → σ' a = σ a)) := hQ
  have hN8 := mi_8 hI
  have hps := ps_lt (μ := μ) (a := i) (b := j)
  have hcFR_σ : ∀ a, ((a < 4900 ∨ 6000 ≤ a) ∧ a ≠ 4000) → σ a = σ a := fun _ _ => rfl
  show G X w 12 0 [(0, .ref (w.1 0)), (1, .int i), (2, .int j), (3, .int hd), (4, .int n), (5, .int wt)] [] σ
  refine g_iload h dX12_proves_0 4 rfl ?_
  refine g_iconst h dX12_proves_2 (by decide) ?_
  refine g_bipush h dX12_proves_3 (by decide) ?_
  refine g_cspi (rest := []) h (r_isFrom hW n (nI 1) (nI 30) ) lX12_isFrom mX12_134 (Nat.lt_of_lt_of_le (by decide) (Nat.le_refl _)) (by decide) rfl rfl rfl dX12_proves_5 ?_
  refine g_ifB_eq h dX12_proves_8 (fun c8 => ?_) (fun c8 => ?_)
  ·
    refine g_iconst h dX12_proves_21 (by decide) ?_
    refine g_goto h dX12_proves_22 ?_
    refine g_istore (L' := [(0, .ref (w.1 0)), (1, .int i), (2, .int j), (3, .int hd), (4, .int n), (5, .int wt), (6, .int (nI 1))]) h dX12_proves_31 rfl (by decide) rfl ?_
    refine g_iload h dX12_proves_33 6 rfl ?_
    refine g_ifN_le h dX12_proves_35 (by decide) (fun c35 => absurd c35 (by decide)) (fun c35 => ?_)
    refine g_aload_n h dX12_proves_38 0 rfl ?_
    refine g_iload h dX12_proves_39 6 rfl ?_
    refine g_cvi (rest := []) h (r_refuse hW (nI 1) ) lX12_refuse mX12_272 (Nat.lt_of_lt_of_le (by decide) (Nat.le_refl _)) (by decide) sc_0 rfl rfl rfl rfl dX12_proves_41 (fun σ_1 eσ_1 => ?_)
    have eσ_1_a : σ_1 = upd σ 4000 (nI 1) := eσ_1
    have ht4000_σ_1 : σ_1 4000 = (nI 1) := by rw [eσ_1_a]; exact upd_eq
    have hcFR_σ_1 : ∀ a, ((a < 4900 ∨ 6000 ≤ a) ∧ a ≠ 4000) → σ_1 a = σ a := by intro a ha; exact Eq.trans (b := σ a) (by rw [eσ_1_a, upd_ne (by first | omega | (simp only [vb] at *; omega))]) (hcFR_σ a ha)
    have hvσ_1 : vw 0 σ_1 = μ := by rw [eσ_1_a, vw_out (by omega)]; first | exact hv | assumption
    exact g_iret h hQ dX12_proves_44 (congrArg (fun z => some (Value.int z)) (show (an (fo (fo (rg n (nI 1) (nI 30)) (rg wt (nI 0) (nI 2))) (ps μ i j)) (v_proves (v_prv μ (nA μ (80 + (8 * toN i + toN j))) (tb (μ (56 + toN i)) (toN j)) hd (toN n)) (toN wt))) = (-1) by first | exact an_yes (by first | (simp [fo, rg, c8, c18, hp0]; done) | (first | rfl | (simp [fo, rg, ns, nB, ps, gst, ofS, offB, c8]; done) | (simp [fo, rg, ns, nB, ps, gst, ofS, offB, c8]; omega))) (by rw [← show k = toN n from by omega, hT]; first | (simp [v_proves, c8]; done) | (simp [v_proves, c8]; rfl)) | exact an_no (k := 1) (by first | rfl | (simp [fo, rg, ns, nB, ps, gst, ofS, offB, c8]; done) | (simp [fo, rg, ns, nB, ps, gst, ofS, offB, c8]; omega)) (by first | decide | omega | assumption | exact nb1 (by assumption)) | fail)) (by exact ⟨(by first | exact tk_eq (k := 1) (by first | rfl | (simp [fo, rg, ns, nB, ps, gst, ofS, offB, c8]; done) | (simp [fo, rg, ns, nB, ps, gst, ofS, offB, c8]; omega)) ht4000_σ_1 | exact tk_eq (k := 1) (by first | (simp [fo, rg, c8, c18, hp0]; done) | (first | rfl | (simp [fo, rg, ns, nB, ps, gst, ofS, offB, c8]; done) | (simp [fo, rg, ns, nB, ps, gst, ofS, offB, c8]; omega))) ht4000_σ_1 | fail), (by exact hcFR_σ_1)⟩)
  ·
    refine g_iload h dX12_proves_11 5 rfl ?_
    refine g_iconst h dX12_proves_13 (by decide) ?_
    refine g_iconst h dX12_proves_14 (by decide) ?_
    refine g_cspi (rest := []) h (r_isFrom hW wt (nI 0) (nI 2) ) lX12_isFrom mX12_134 (Nat.lt_of_lt_of_le (by decide) (Nat.le_refl _)) (by decide) rfl rfl rfl dX12_proves_15 ?_
    refine g_ifB_ne h dX12_proves_18 (fun c18 => ?_) (fun c18 => ?_)
    ·
      refine g_aload_n h dX12_proves_25 0 rfl ?_
      refine g_iload_n h dX12_proves_26 1 rfl ?_
      refine g_iload_n h dX12_proves_27 2 rfl ?_
      refine g_cvpi (rest := []) h (r_ps hW i j μ (by first | exact hv | assumption | fail)) lX12_wrongTwo mX12_290 (Nat.lt_of_lt_of_le (by decide) (Nat.le_refl _)) (by decide) sc_0 rfl rfl rfl rfl dX12_proves_28 ?_
      refine g_istore (L' := [(0, .ref (w.1 0)), (1, .int i), (2, .int j), (3, .int hd), (4, .int n), (5, .int wt), (6, .int (nI (ps μ i j)))]) h dX12_proves_31 rfl (by decide) rfl ?_
      refine g_iload h dX12_proves_33 6 rfl ?_
      refine g_ifN_le h dX12_proves_35 (by omega) (fun c35 => ?_) (fun c35 => ?_)
      ·
        obtain ⟨en, hn9⟩ := fr_N1 (by decide) c8
        obtain ⟨ew, hw9⟩ := fr_N (by decide) c18
        have hp0 : ps μ i j = 0 := by omega
        have h0 := ps_0 hp0
        obtain ⟨ei, hi9⟩ := nB_N hI h0.1
        obtain ⟨ej, hj9⟩ := nB_N hI h0.2.1
        rw [hp0]
        rw [ei, ej, ew, en]
        have hQ0 := mb_80 hI (j := 8 * toN i + toN j) (by omega)
        show G X w 12 45 [(0, .ref (w.1 0)), (1, .int (nI (toN i))), (2, .int (nI (toN j))), (3, .int hd), (4, .int (nI (toN n))), (5, .int (nI (toN wt))), (6, .int (nI 0))] [] σ
        refine g_aload_n h dX12_proves_45 0 rfl ?_
        refine g_bipush h dX12_proves_46 (by decide) ?_
        refine g_iload_n h dX12_proves_48 1 rfl ?_
        refine g_iload_n h dX12_proves_49 2 rfl ?_
        refine g_cspi (rest := [.ref (w.1 0)]) h (r_two hW 80 (toN i) (toN j) ) lX12_two mX12_69 (Nat.lt_of_lt_of_le (by decide) (Nat.le_refl _)) (by decide) rfl rfl rfl dX12_proves_50 ?_
        refine g_cvpi (rest := []) h (r_of hW (80 + (8 * (toN i) + (toN j))) μ (by assumption) (by omega)) lX12_of mX12_61 (Nat.lt_of_lt_of_le (by decide) (Nat.le_refl _)) (by decide) sc_0 rfl rfl rfl rfl dX12_proves_53 ?_
        refine g_top (y := nI (nA μ (80 + (8 * (toN i) + (toN j))))) (mi_80 (by assumption) (by omega)) ?_
        have b9_53 : nA μ (80 + (8 * (toN i) + (toN j))) < 1000 := mb_80 (by assumption) (by omega)
        refine g_istore (L' := [(0, .ref (w.1 0)), (1, .int (nI (toN i))), (2, .int (nI (toN j))), (3, .int hd), (4, .int (nI (toN n))), (5, .int (nI (toN wt))), (6, .int (nI 0)), (7, .int (nI (nA μ (80 + (8 * (toN i) + (toN j))))))]) h dX12_proves_56 rfl (by decide) rfl ?_
        refine g_aload_n h dX12_proves_58 0 rfl ?_
        refine g_bipush h dX12_proves_59 (by decide) ?_
        refine g_iload_n h dX12_proves_61 1 rfl ?_
        refine g_iaddN h dX12_proves_62  ?_
        refine g_cvpi (rest := []) h (r_of hW (56 + toN i) μ (by assumption) (by omega)) lX12_of mX12_61 (Nat.lt_of_lt_of_le (by decide) (Nat.le_refl _)) (by decide) sc_0 rfl rfl rfl rfl dX12_proves_63 ?_
        refine g_iload_n h dX12_proves_66 2 rfl ?_
        refine g_cspi (rest := []) h (r_has hW (μ (56 + toN i)) (toN j) (by omega)) lX12_has mX12_65 (Nat.lt_of_lt_of_le (by decide) (Nat.le_refl _)) (by decide) rfl rfl rfl dX12_proves_67 ?_
        refine g_istore (L' := [(0, .ref (w.1 0)), (1, .int (nI (toN i))), (2, .int (nI (toN j))), (3, .int hd), (4, .int (nI (toN n))), (5, .int (nI (toN wt))), (6, .int (nI 0)), (7, .int (nI (nA μ (80 + (8 * (toN i) + (toN j)))))), (8, .int (b2i (tb (μ (56 + toN i)) (toN j))))]) h dX12_proves_70 rfl (by decide) rfl ?_
        refine g_iconst h dX12_proves_72 (by decide) ?_
        refine g_istore (L' := [(0, .ref (w.1 0)), (1, .int (nI (toN i))), (2, .int (nI (toN j))), (3, .int hd), (4, .int (nI (toN n))), (5, .int (nI (toN wt))), (6, .int (nI 0)), (7, .int (nI (nA μ (80 + (8 * (toN i) + (toN j)))))), (8, .int (b2i (tb (μ (56 + toN i)) (toN j)))), (9, .int (nI 0))]) h dX12_proves_73 rfl (by decide) rfl ?_
        refine g_iconst h dX12_proves_75 (by decide) ?_
        refine g_istore (L' := [(0, .ref (w.1 0)), (1, .int (nI (toN i))), (2, .int (nI (toN j))), (3, .int hd), (4, .int (nI (toN n))), (5, .int (nI (toN wt))), (6, .int (nI 0)), (7, .int (nI (nA μ (80 + (8 * (toN i) + (toN j)))))), (8, .int (b2i (tb (μ (56 + toN i)) (toN j)))), (9, .int (nI 0)), (10, .int (nI 0))]) h dX12_proves_76 rfl (by decide) rfl ?_
        have lp78 : ∀ (k9 : Nat) (q : Nat) (up : Bool) (tn : Nat) (k : Nat), (v_prv μ (nA μ (80 + (8 * toN i + toN j))) (tb (μ (56 + toN i)) (toN j)) hd k = (q, up, tn)) → (k ≤ toN n) → toN n - k < k9 → G X w 12 78 [(0, .ref (w.1 0)), (1, .int (nI (toN i))), (2, .int (nI (toN j))), (3, .int hd), (4, .int (nI (toN n))), (5, .int (nI (toN wt))), (6, .int (nI 0)), (7, .int (nI q)), (8, .int (b2i up)), (9, .int (nI tn)), (10, .int (nI k))] [] σ := by
          intro k9
          induction k9 with
          | zero => intro q up tn k hT hk hm9; exact absurd hm9 (Nat.not_lt_zero _)
          | succ k9 ih78 =>
            intro q up tn k hT hk hm78
            have hl := v_prv_lt (μ := μ) (up := (tb (μ (56 + toN i)) (toN j))) (hd := hd) hQ0 k
            rw [hT] at hl
            have hq : q < 1000 := hl.1
            have hpv := prv_lt (h := tb hd k) hq
            have htn : tn ≤ k := hl.2
            refine g_iload h dX12_proves_78 10 rfl ?_
            refine g_iload h dX12_proves_80 4 rfl ?_
            refine g_icmpN_ge h dX12_proves_82 (by omega) (by omega) (fun c82 => ?_) (fun c82 => ?_)
            ·
              refine g_aload_n h dX12_proves_135 0 rfl ?_
              refine g_iload h dX12_proves_136 5 rfl ?_
              refine g_ifN_ne h dX12_proves_138 (by omega) (fun c138 => ?_) (fun c138 => ?_)
              ·
                refine g_iload h dX12_proves_146 5 rfl ?_
                refine g_iconst h dX12_proves_148 (by decide) ?_
                refine g_icmpN_ne h dX12_proves_149 (by omega) (by omega) (fun c149 => ?_) (fun c149 => ?_)
                ·
                  refine g_iload h dX12_proves_165 9 rfl ?_
                  refine g_cvi (rest := []) h (r_gives hW (nI tn) ) lX12_gives mX12_281 (Nat.lt_of_lt_of_le (by decide) (Nat.le_refl _)) (by decide) sc_0 rfl rfl rfl rfl dX12_proves_167 (fun σ_2 eσ_2 => ?_)
                  have eσ_2_a : σ_2 = upd σ 4000 (nI 0) := eσ_2
                  have ht4000_σ_2 : σ_2 4000 = (nI 0) := by rw [eσ_2_a]; exact upd_eq
                  have hcFR_σ_2 : ∀ a, ((a < 4900 ∨ 6000 ≤ a) ∧ a ≠ 4000) → σ_2 a = σ a := by intro a ha; exact Eq.trans (b := σ a) (by rw [eσ_2_a, upd_ne (by first | omega | (simp only [vb] at *; omega))]) (hcFR_σ a ha)
                  have hvσ_2 : vw 0 σ_2 = μ := by rw [eσ_2_a, vw_out (by omega)]; first | exact hv | assumption
                  exact g_iret h hQ dX12_proves_170 (congrArg (fun z => some (Value.int z)) (show (an (fo (fo (rg n (nI 1) (nI 30)) (rg wt (nI 0) (nI 2))) (ps μ i j)) (v_proves (v_prv μ (nA μ (80 + (8 * toN i + toN j))) (tb (μ (56 + toN i)) (toN j)) hd (toN n)) (toN wt))) = (nI tn) by first | exact an_yes (by first | (simp [fo, rg, c8, c18, hp0]; done) | (first | rfl | (simp [fo, rg, ns, nB, ps, gst, ofS, offB, c8, c18, c35, c82, c138, c149]; done) | (simp [fo, rg, ns, nB, ps, gst, ofS, offB, c8, c18, c35, c82, c138, c149]; omega))) (by rw [← show k = toN n from by omega, hT]; first | (simp [v_proves, c8, c18, c35, c82, c138, c149]; done) | (simp [v_proves, c8, c18, c35, c82, c138, c149]; rfl)) | exact an_no (k := 0) (by first | rfl | (simp [fo, rg, ns, nB, ps, gst, ofS, offB, c8, c18, c35, c82, c138, c149]; done) | (simp [fo, rg, ns, nB, ps, gst, ofS, offB, c8, c18, c35, c82, c138, c149]; omega)) (by first | decide | omega | assumption | exact nb1 (by assumption)) | fail)) (by exact ⟨(by first | exact tk_eq (k := 0) (by first | rfl | (simp [fo, rg, ns, nB, ps, gst, ofS, offB, c8, c18, c35, c82, c138, c149]; done) | (simp [fo, rg, ns, nB, ps, gst, ofS, offB, c8, c18, c35, c82, c138, c149]; omega)) ht4000_σ_2 | exact tk_eq (k := 0) (by first | (simp [fo, rg, c8, c18, hp0]; done) | (first | rfl | (simp [fo, rg, ns, nB, ps, gst, ofS, offB, c8, c18, c35, c82, c138, c149]; done) | (simp [fo, rg, ns, nB, ps, gst, ofS, offB, c8, c18, c35, c82, c138, c149]; omega))) ht4000_σ_2 | fail), (by exact hcFR_σ_2)⟩)
                ·
                  refine g_iload h dX12_proves_152 8 rfl ?_
                  refine g_ifB_eq h dX12_proves_154 (fun c154 => ?_) (fun c154 => ?_)
                  ·
                    refine g_iconst h dX12_proves_161 (by decide) ?_
                    refine g_goto h dX12_proves_162 ?_
                    refine g_cvi (rest := []) h (r_gives hW (nI 0) ) lX12_gives mX12_281 (Nat.lt_of_lt_of_le (by decide) (Nat.le_refl _)) (by decide) sc_0 rfl rfl rfl rfl dX12_proves_167 (fun σ_3 eσ_3 => ?_)
                    have eσ_3_a : σ_3 = upd σ 4000 (nI 0) := eσ_3
                    have ht4000_σ_3 : σ_3 4000 = (nI 0) := by rw [eσ_3_a]; exact upd_eq
                    have hcFR_σ_3 : ∀ a, ((a < 4900 ∨ 6000 ≤ a) ∧ a ≠ 4000) → σ_3 a = σ a := by intro a ha; exact Eq.trans (b := σ a) (by rw [eσ_3_a, upd_ne (by first | omega | (simp only [vb] at *; omega))]) (hcFR_σ a ha)
                    have hvσ_3 : vw 0 σ_3 = μ := by rw [eσ_3_a, vw_out (by omega)]; first | exact hv | assumption
                    exact g_iret h hQ dX12_proves_170 (congrArg (fun z => some (Value.int z)) (show (an (fo (fo (rg n (nI 1) (nI 30)) (rg wt (nI 0) (nI 2))) (ps μ i j)) (v_proves (v_prv μ (nA μ (80 + (8 * toN i + toN j))) (tb (μ (56 + toN i)) (toN j)) hd (toN n)) (toN wt))) = (nI 0) by first | exact an_yes (by first | (simp [fo, rg, c8, c18, hp0]; done) | (first | rfl | (simp [fo, rg, ns, nB, ps, gst, ofS, offB, c8, c18, c35, c82, c138, c149, c154]; done) | (simp [fo, rg, ns, nB, ps, gst, ofS, offB, c8, c18, c35, c82, c138, c149, c154]; omega))) (by rw [← show k = toN n from by omega, hT]; first | (simp [v_proves, c8, c18, c35, c82, c138, c149, c154]; done) | (simp [v_proves, c8, c18, c35, c82, c138, c149, c154]; rfl)) | exact an_no (k := 0) (by first | rfl | (simp [fo, rg, ns, nB, ps, gst, ofS, offB, c8, c18, c35, c82, c138, c149, c154]; done) | (simp [fo, rg, ns, nB, ps, gst, ofS, offB, c8, c18, c35, c82, c138, c149, c154]; omega)) (by first | decide | omega | assumption | exact nb1 (by assumption)) | fail)) (by exact ⟨(by first | exact tk_eq (k := 0) (by first | rfl | (simp [fo, rg, ns, nB, ps, gst, ofS, offB, c8, c18, c35, c82, c138, c149, c154]; done) | (simp [fo, rg, ns, nB, ps, gst, ofS, offB, c8, c18, c35, c82, c138, c149, c154]; omega)) ht4000_σ_3 | exact tk_eq (k := 0) (by first | (simp [fo, rg, c8, c18, hp0]; done) | (first | rfl | (simp [fo, rg, ns, nB, ps, gst, ofS, offB, c8, c18, c35, c82, c138, c149, c154]; done) | (simp [fo, rg, ns, nB, ps, gst, ofS, offB, c8, c18, c35, c82, c138, c149, c154]; omega))) ht4000_σ_3 | fail), (by exact hcFR_σ_3)⟩)
                  ·
                    refine g_iconst h dX12_proves_157 (by decide) ?_
                    refine g_goto h dX12_proves_158 ?_
                    refine g_cvi (rest := []) h (r_gives hW (nI 1) ) lX12_gives mX12_281 (Nat.lt_of_lt_of_le (by decide) (Nat.le_refl _)) (by decide) sc_0 rfl rfl rfl rfl dX12_proves_167 (fun σ_4 eσ_4 => ?_)
                    have eσ_4_a : σ_4 = upd σ 4000 (nI 0) := eσ_4
                    have ht4000_σ_4 : σ_4 4000 = (nI 0) := by rw [eσ_4_a]; exact upd_eq
                    have hcFR_σ_4 : ∀ a, ((a < 4900 ∨ 6000 ≤ a) ∧ a ≠ 4000) → σ_4 a = σ a := by intro a ha; exact Eq.trans (b := σ a) (by rw [eσ_4_a, upd_ne (by first | omega | (simp only [vb] at *; omega))]) (hcFR_σ a ha)
                    have hvσ_4 : vw 0 σ_4 = μ := by rw [eσ_4_a, vw_out (by omega)]; first | exact hv | assumption
                    exact g_iret h hQ dX12_proves_170 (congrArg (fun z => some (Value.int z)) (show (an (fo (fo (rg n (nI 1) (nI 30)) (rg wt (nI 0) (nI 2))) (ps μ i j)) (v_proves (v_prv μ (nA μ (80 + (8 * toN i + toN j))) (tb (μ (56 + toN i)) (toN j)) hd (toN n)) (toN wt))) = (nI 1) by first | exact an_yes (by first | (simp [fo, rg, c8, c18, hp0]; done) | (first | rfl | (simp [fo, rg, ns, nB, ps, gst, ofS, offB, c8, c18, c35, c82, c138, c149, c154]; done) | (simp [fo, rg, ns, nB, ps, gst, ofS, offB, c8, c18, c35, c82, c138, c149, c154]; omega))) (by rw [← show k = toN n from by omega, hT]; first | (simp [v_proves, c8, c18, c35, c82, c138, c149, c154]; done) | (simp [v_proves, c8, c18, c35, c82, c138, c149, c154]; rfl)) | exact an_no (k := 0) (by first | rfl | (simp [fo, rg, ns, nB, ps, gst, ofS, offB, c8, c18, c35, c82, c138, c149, c154]; done) | (simp [fo, rg, ns, nB, ps, gst, ofS, offB, c8, c18, c35, c82, c138, c149, c154]; omega)) (by first | decide | omega | assumption | exact nb1 (by assumption)) | fail)) (by exact ⟨(by first | exact tk_eq (k := 0) (by first | rfl | (simp [fo, rg, ns, nB, ps, gst, ofS, offB, c8, c18, c35, c82, c138, c149, c154]; done) | (simp [fo, rg, ns, nB, ps, gst, ofS, offB, c8, c18, c35, c82, c138, c149, c154]; omega)) ht4000_σ_4 | exact tk_eq (k := 0) (by first | (simp [fo, rg, c8, c18, hp0]; done) | (first | rfl | (simp [fo, rg, ns, nB, ps, gst, ofS, offB, c8, c18, c35, c82, c138, c149, c154]; done) | (simp [fo, rg, ns, nB, ps, gst, ofS, offB, c8, c18, c35, c82, c138, c149, c154]; omega))) ht4000_σ_4 | fail), (by exact hcFR_σ_4)⟩)
              ·
                refine g_iload h dX12_proves_141 7 rfl ?_
                refine g_goto h dX12_proves_143 ?_
                refine g_cvi (rest := []) h (r_gives hW (nI q) ) lX12_gives mX12_281 (Nat.lt_of_lt_of_le (by decide) (Nat.le_refl _)) (by decide) sc_0 rfl rfl rfl rfl dX12_proves_167 (fun σ_5 eσ_5 => ?_)
                have eσ_5_a : σ_5 = upd σ 4000 (nI 0) := eσ_5
                have ht4000_σ_5 : σ_5 4000 = (nI 0) := by rw [eσ_5_a]; exact upd_eq
                have hcFR_σ_5 : ∀ a, ((a < 4900 ∨ 6000 ≤ a) ∧ a ≠ 4000) → σ_5 a = σ a := by intro a ha; exact Eq.trans (b := σ a) (by rw [eσ_5_a, upd_ne (by first | omega | (simp only [vb] at *; omega))]) (hcFR_σ a ha)
                have hvσ_5 : vw 0 σ_5 = μ := by rw [eσ_5_a, vw_out (by omega)]; first | exact hv | assumption
                exact g_iret h hQ dX12_proves_170 (congrArg (fun z => some (Value.int z)) (show (an (fo (fo (rg n (nI 1) (nI 30)) (rg wt (nI 0) (nI 2))) (ps μ i j)) (v_proves (v_prv μ (nA μ (80 + (8 * toN i + toN j))) (tb (μ (56 + toN i)) (toN j)) hd (toN n)) (toN wt))) = (nI q) by first | exact an_yes (by first | (simp [fo, rg, c8, c18, hp0]; done) | (first | rfl | (simp [fo, rg, ns, nB, ps, gst, ofS, offB, c8, c18, c35, c82, c138]; done) | (simp [fo, rg, ns, nB, ps, gst, ofS, offB, c8, c18, c35, c82, c138]; omega))) (by rw [← show k = toN n from by omega, hT]; first | (simp [v_proves, c8, c18, c35, c82, c138]; done) | (simp [v_proves, c8, c18, c35, c82, c138]; rfl)) | exact an_no (k := 0) (by first | rfl | (simp [fo, rg, ns, nB, ps, gst, ofS, offB, c8, c18, c35, c82, c138]; done) | (simp [fo, rg, ns, nB, ps, gst, ofS, offB, c8, c18, c35, c82, c138]; omega)) (by first | decide | omega | assumption | exact nb1 (by assumption)) | fail)) (by exact ⟨(by first | exact tk_eq (k := 0) (by first | rfl | (simp [fo, rg, ns, nB, ps, gst, ofS, offB, c8, c18, c35, c82, c138]; done) | (simp [fo, rg, ns, nB, ps, gst, ofS, offB, c8, c18, c35, c82, c138]; omega)) ht4000_σ_5 | exact tk_eq (k := 0) (by first | (simp [fo, rg, c8, c18, hp0]; done) | (first | rfl | (simp [fo, rg, ns, nB, ps, gst, ofS, offB, c8, c18, c35, c82, c138]; done) | (simp [fo, rg, ns, nB, ps, gst, ofS, offB, c8, c18, c35, c82, c138]; omega))) ht4000_σ_5 | fail), (by exact hcFR_σ_5)⟩)
            ·
              refine g_iload h dX12_proves_85 7 rfl ?_
              refine g_iload_n h dX12_proves_87 3 rfl ?_
              refine g_iload h dX12_proves_88 10 rfl ?_
              refine g_cspi (rest := [.int (nI q)]) h (r_has hW hd k (by omega)) lX12_has mX12_65 (Nat.lt_of_lt_of_le (by decide) (Nat.le_refl _)) (by decide) rfl rfl rfl dX12_proves_90 ?_
              refine g_cspi (rest := []) h (r_proved hW q (tb hd k) (by omega)) lX12_proved mX12_122 (Nat.lt_of_lt_of_le (by decide) (Nat.le_refl _)) (by decide) rfl rfl rfl dX12_proves_93 ?_
              refine g_istore (L' := [(0, .ref (w.1 0)), (1, .int (nI (toN i))), (2, .int (nI (toN j))), (3, .int hd), (4, .int (nI (toN n))), (5, .int (nI (toN wt))), (6, .int (nI 0)), (7, .int (nI (prv q (tb hd k)))), (8, .int (b2i up)), (9, .int (nI tn)), (10, .int (nI k))]) h dX12_proves_96 rfl (by decide) rfl ?_
              refine g_aload_n h dX12_proves_98 0 rfl ?_
              refine g_iload h dX12_proves_99 7 rfl ?_
              refine g_iload h dX12_proves_101 8 rfl ?_
              refine g_cvpi (rest := []) h (r_isUp hW (prv q (tb hd k)) up μ (by first | exact hv | assumption | fail) (by assumption) (by omega)) lX12_isUp mX12_126 (Nat.lt_of_lt_of_le (by decide) (Nat.le_refl _)) (by decide) sc_0 rfl rfl rfl rfl dX12_proves_103 ?_
              refine g_istore (L' := [(0, .ref (w.1 0)), (1, .int (nI (toN i))), (2, .int (nI (toN j))), (3, .int hd), (4, .int (nI (toN n))), (5, .int (nI (toN wt))), (6, .int (nI 0)), (7, .int (nI (prv q (tb hd k)))), (8, .int (b2i up)), (9, .int (nI tn)), (10, .int (nI k)), (11, .int (b2i (isU μ (prv q (tb hd k)) up)))]) h dX12_proves_106 rfl (by decide) rfl ?_
              refine g_iload h dX12_proves_108 9 rfl ?_
              refine g_iload h dX12_proves_110 11 rfl ?_
              refine g_iload h dX12_proves_112 8 rfl ?_
              refine g_icmpB_ne (p := (isU μ (prv q (tb hd k)) up)) (q := up) h dX12_proves_114 (fun c114 => ?_) (fun c114 => ?_)
              ·
                refine g_iconst h dX12_proves_121 (by decide) ?_
                refine g_iaddN h dX12_proves_122  ?_
                refine g_istore (L' := [(0, .ref (w.1 0)), (1, .int (nI (toN i))), (2, .int (nI (toN j))), (3, .int hd), (4, .int (nI (toN n))), (5, .int (nI (toN wt))), (6, .int (nI 0)), (7, .int (nI (prv q (tb hd k)))), (8, .int (b2i up)), (9, .int (nI (tn + 1))), (10, .int (nI k)), (11, .int (b2i (isU μ (prv q (tb hd k)) up)))]) h dX12_proves_123 rfl (by decide) rfl ?_
                refine g_iload h dX12_proves_125 11 rfl ?_
                refine g_istore (L' := [(0, .ref (w.1 0)), (1, .int (nI (toN i))), (2, .int (nI (toN j))), (3, .int hd), (4, .int (nI (toN n))), (5, .int (nI (toN wt))), (6, .int (nI 0)), (7, .int (nI (prv q (tb hd k)))), (8, .int (b2i (isU μ (prv q (tb hd k)) up))), (9, .int (nI (tn + 1))), (10, .int (nI k)), (11, .int (b2i (isU μ (prv q (tb hd k)) up)))]) h dX12_proves_127 rfl (by decide) rfl ?_
                refine g_iincN (b := 1) (L' := [(0, .ref (w.1 0)), (1, .int (nI (toN i))), (2, .int (nI (toN j))), (3, .int hd), (4, .int (nI (toN n))), (5, .int (nI (toN wt))), (6, .int (nI 0)), (7, .int (nI (prv q (tb hd k)))), (8, .int (b2i (isU μ (prv q (tb hd k)) up))), (9, .int (nI (tn + 1))), (10, .int (nI (k + 1))), (11, .int (b2i (isU μ (prv q (tb hd k)) up)))]) h dX12_proves_129 10 rfl rfl (by decide) (by decide) rfl ?_
                refine g_goto h dX12_proves_132 ?_
                exact g_sub [0, 1, 2, 3, 4, 5, 6, 7, 8, 9, 10] rfl (ih78 (prv q (tb hd k)) (isU μ (prv q (tb hd k)) up) (tn + 1) (k + 1) (by simp only [v_prv, hT]; first | (rw [if_pos c114]; done) | (rw [if_neg (ne_of_bb c114)]; done) | (rw [if_pos c121]; done) | (rw [if_neg (ne_of_bb c121)]; done) | (simp [c8, c18, c35, c82, c114]; done)) (by omega) (by omega))
              ·
                refine g_iconst h dX12_proves_117 (by decide) ?_
                refine g_goto h dX12_proves_118 ?_
                refine g_iaddN h dX12_proves_122  ?_
                refine g_istore (L' := [(0, .ref (w.1 0)), (1, .int (nI (toN i))), (2, .int (nI (toN j))), (3, .int hd), (4, .int (nI (toN n))), (5, .int (nI (toN wt))), (6, .int (nI 0)), (7, .int (nI (prv q (tb hd k)))), (8, .int (b2i up)), (9, .int (nI (tn + 0))), (10, .int (nI k)), (11, .int (b2i (isU μ (prv q (tb hd k)) up)))]) h dX12_proves_123 rfl (by decide) rfl ?_
                refine g_iload h dX12_proves_125 11 rfl ?_
                refine g_istore (L' := [(0, .ref (w.1 0)), (1, .int (nI (toN i))), (2, .int (nI (toN j))), (3, .int hd), (4, .int (nI (toN n))), (5, .int (nI (toN wt))), (6, .int (nI 0)), (7, .int (nI (prv q (tb hd k)))), (8, .int (b2i (isU μ (prv q (tb hd k)) up))), (9, .int (nI (tn + 0))), (10, .int (nI k)), (11, .int (b2i (isU μ (prv q (tb hd k)) up)))]) h dX12_proves_127 rfl (by decide) rfl ?_
                refine g_iincN (b := 1) (L' := [(0, .ref (w.1 0)), (1, .int (nI (toN i))), (2, .int (nI (toN j))), (3, .int hd), (4, .int (nI (toN n))), (5, .int (nI (toN wt))), (6, .int (nI 0)), (7, .int (nI (prv q (tb hd k)))), (8, .int (b2i (isU μ (prv q (tb hd k)) up))), (9, .int (nI (tn + 0))), (10, .int (nI (k + 1))), (11, .int (b2i (isU μ (prv q (tb hd k)) up)))]) h dX12_proves_129 10 rfl rfl (by decide) (by decide) rfl ?_
                refine g_goto h dX12_proves_132 ?_
                exact g_sub [0, 1, 2, 3, 4, 5, 6, 7, 8, 9, 10] rfl (ih78 (prv q (tb hd k)) (isU μ (prv q (tb hd k)) up) (tn + 0) (k + 1) (by simp only [v_prv, hT]; first | (rw [if_pos c114]; done) | (rw [if_neg (ne_of_bb c114)]; done) | (rw [if_pos c121]; done) | (rw [if_neg (ne_of_bb c121)]; done) | (simp [c8, c18, c35, c82, c114]; done)) (by omega) (by omega))
        exact lp78 (_) (nA μ (80 + (8 * (toN i) + (toN j)))) (tb (μ (56 + toN i)) (toN j)) 0 0 (by rfl) (by omega) (Nat.lt_succ_self _)
      ·
        refine g_aload_n h dX12_proves_38 0 rfl ?_
        refine g_iload h dX12_proves_39 6 rfl ?_
        refine g_cvi (rest := []) h (r_refuse hW (nI (ps μ i j)) ) lX12_refuse mX12_272 (Nat.lt_of_lt_of_le (by decide) (Nat.le_refl _)) (by decide) sc_0 rfl rfl rfl rfl dX12_proves_41 (fun σ_6 eσ_6 => ?_)
        have eσ_6_a : σ_6 = upd σ 4000 (nI (ps μ i j)) := eσ_6
        have ht4000_σ_6 : σ_6 4000 = (nI (ps μ i j)) := by rw [eσ_6_a]; exact upd_eq
        have hcFR_σ_6 : ∀ a, ((a < 4900 ∨ 6000 ≤ a) ∧ a ≠ 4000) → σ_6 a = σ a := by intro a ha; exact Eq.trans (b := σ a) (by rw [eσ_6_a, upd_ne (by first | omega | (simp only [vb] at *; omega))]) (hcFR_σ a ha)
        have hvσ_6 : vw 0 σ_6 = μ := by rw [eσ_6_a, vw_out (by omega)]; first | exact hv | assumption
        exact g_iret h hQ dX12_proves_44 (congrArg (fun z => some (Value.int z)) (show (an (fo (fo (rg n (nI 1) (nI 30)) (rg wt (nI 0) (nI 2))) (ps μ i j)) (v_proves (v_prv μ (nA μ (80 + (8 * toN i + toN j))) (tb (μ (56 + toN i)) (toN j)) hd (toN n)) (toN wt))) = (-1) by first | exact an_yes (by first | (simp [fo, rg, c8, c18, hp0]; done) | (first | rfl | (simp [fo, rg, ns, nB, ps, gst, ofS, offB, c8, c18, c35]; done) | (simp [fo, rg, ns, nB, ps, gst, ofS, offB, c8, c18, c35]; omega))) (by rw [← show k = toN n from by omega, hT]; first | (simp [v_proves, c8, c18, c35]; done) | (simp [v_proves, c8, c18, c35]; rfl)) | exact an_no (k := (ps μ i j)) (by first | rfl | (simp [fo, rg, ns, nB, ps, gst, ofS, offB, c8, c18, c35]; done) | (simp [fo, rg, ns, nB, ps, gst, ofS, offB, c8, c18, c35]; omega)) (by first | decide | omega | assumption | exact nb1 (by assumption)) | fail)) (by exact ⟨(by first | exact tk_eq (k := (ps μ i j)) (by first | rfl | (simp [fo, rg, ns, nB, ps, gst, ofS, offB, c8, c18, c35]; done) | (simp [fo, rg, ns, nB, ps, gst, ofS, offB, c8, c18, c35]; omega)) ht4000_σ_6 | exact tk_eq (k := (ps μ i j)) (by first | (simp [fo, rg, c8, c18, hp0]; done) | (first | rfl | (simp [fo, rg, ns, nB, ps, gst, ofS, offB, c8, c18, c35]; done) | (simp [fo, rg, ns, nB, ps, gst, ofS, offB, c8, c18, c35]; omega))) ht4000_σ_6 | fail), (by exact hcFR_σ_6)⟩)
    ·
      refine g_iconst h dX12_proves_21 (by decide) ?_
      refine g_goto h dX12_proves_22 ?_
      refine g_istore (L' := [(0, .ref (w.1 0)), (1, .int i), (2, .int j), (3, .int hd), (4, .int n), (5, .int wt), (6, .int (nI 1))]) h dX12_proves_31 rfl (by decide) rfl ?_
      refine g_iload h dX12_proves_33 6 rfl ?_
      refine g_ifN_le h dX12_proves_35 (by decide) (fun c35 => absurd c35 (by decide)) (fun c35 => ?_)
      refine g_aload_n h dX12_proves_38 0 rfl ?_
      refine g_iload h dX12_proves_39 6 rfl ?_
      refine g_cvi (rest := []) h (r_refuse hW (nI 1) ) lX12_refuse mX12_272 (Nat.lt_of_lt_of_le (by decide) (Nat.le_refl _)) (by decide) sc_0 rfl rfl rfl rfl dX12_proves_41 (fun σ_7 eσ_7 => ?_)
      have eσ_7_a : σ_7 = upd σ 4000 (nI 1) := eσ_7
      have ht4000_σ_7 : σ_7 4000 = (nI 1) := by rw [eσ_7_a]; exact upd_eq
      have hcFR_σ_7 : ∀ a, ((a < 4900 ∨ 6000 ≤ a) ∧ a ≠ 4000) → σ_7 a = σ a := by intro a ha; exact Eq.trans (b := σ a) (by rw [eσ_7_a, upd_ne (by first | omega | (simp only [vb] at *; omega))]) (hcFR_σ a ha)
      have hvσ_7 : vw 0 σ_7 = μ := by rw [eσ_7_a, vw_out (by omega)]; first | exact hv | assumption
      exact g_iret h hQ dX12_proves_44 (congrArg (fun z => some (Value.int z)) (show (an (fo (fo (rg n (nI 1) (nI 30)) (rg wt (nI 0) (nI 2))) (ps μ i j)) (v_proves (v_prv μ (nA μ (80 + (8 * toN i + toN j))) (tb (μ (56 + toN i)) (toN j)) hd (toN n)) (toN wt))) = (-1) by first | exact an_yes (by first | (simp [fo, rg, c8, c18, hp0]; done) | (first | rfl | (simp [fo, rg, ns, nB, ps, gst, ofS, offB, c8, c18]; done) | (simp [fo, rg, ns, nB, ps, gst, ofS, offB, c8, c18]; omega))) (by rw [← show k = toN n from by omega, hT]; first | (simp [v_proves, c8, c18]; done) | (simp [v_proves, c8, c18]; rfl)) | exact an_no (k := 1) (by first | rfl | (simp [fo, rg, ns, nB, ps, gst, ofS, offB, c8, c18]; done) | (simp [fo, rg, ns, nB, ps, gst, ofS, offB, c8, c18]; omega)) (by first | decide | omega | assumption | exact nb1 (by assumption)) | fail)) (by exact ⟨(by first | exact tk_eq (k := 1) (by first | rfl | (simp [fo, rg, ns, nB, ps, gst, ofS, offB, c8, c18]; done) | (simp [fo, rg, ns, nB, ps, gst, ofS, offB, c8, c18]; omega)) ht4000_σ_7 | exact tk_eq (k := 1) (by first | (simp [fo, rg, c8, c18, hp0]; done) | (first | rfl | (simp [fo, rg, ns, nB, ps, gst, ofS, offB, c8, c18]; done) | (simp [fo, rg, ns, nB, ps, gst, ofS, offB, c8, c18]; omega))) ht4000_σ_7 | fail), (by exact hcFR_σ_7)⟩)

set_option maxRecDepth 100000 in
set_option maxHeartbeats 4000000 in
theorem p_proves {l : Launch} {w : Wd} (hW : Wi w) {σ : Mem} (i : Int32) (j : Int32) (hd : Int32) (n : Int32) (wt : Int32)  (μ : Nat → Int32) (hv : vw (vb 0) σ = μ) (hI : MI μ) : MC l w qX11_proves 2 [.ref (w.1 12), .int i, .int j, .int hd, .int n, .int wt] σ (some (.int (an (fo (fo (rg n (nI 1) (nI 30)) (rg wt (nI 0) (nI 2))) (ps μ i j)) (v_proves (v_prv μ (nA μ (80 + (8 * toN i + toN j))) (tb (μ (56 + toN i)) (toN j)) hd (toN n)) (toN wt))))) (fun σ' => (σ' 14000 = (nI (fo (fo (rg n (nI 1) (nI 30)) (rg wt (nI 0) (nI 2))) (ps μ i j)))) ∧ (∀ a, (a < 14900 ∧ a ≠ 14000) → σ' a = σ a)) := by
  refine MC.of hW (by decide +kernel) (Nat.le_of_ble_eq_true rfl) (fun X h hQ hnm => ?_)
  have h : Fx X w cX11_proves 12 RX11 2 := h
  have hQ : Qx X w (some .int) (some (.int (an (fo (fo (rg n (nI 1) (nI 30)) (rg wt (nI 0) (nI 2))) (ps μ i j)) (v_proves (v_prv μ (nA μ (80 + (8 * toN i + toN j))) (tb (μ (56 + toN i)) (toN j)) hd (toN n)) (toN wt))))) (fun σ' => (σ' 14000 = (nI (fo (fo (rg n (nI 1) (nI 30)) (rg wt (nI 0) (nI 2))) (ps μ i j)))) ∧ (∀ a, (a < 14900 ∧ a ≠ 14000) → σ' a = σ a)) := hQ
  have hN8 := mi_8 hI
  have hcFR_σ : ∀ a, (a < 14900 ∧ a ≠ 14000) → σ a = σ a := fun _ _ => rfl
  show G X w 12 0 [(0, .ref (w.1 12)), (1, .int i), (2, .int j), (3, .int hd), (4, .int n), (5, .int wt)] [] σ
  refine g_iload h dX11_proves_0 4 rfl ?_
  refine g_iconst h dX11_proves_2 (by decide) ?_
  refine g_bipush h dX11_proves_3 (by decide) ?_
  refine g_cspi (rest := []) h (c_rg hW n (nI 1) (nI 30) ) lX11_rangeStatus mX11_102 (Nat.lt_of_lt_of_le (by decide) (Nat.le_refl _)) (by decide) rfl rfl rfl dX11_proves_5 ?_
  refine g_iload h dX11_proves_8 5 rfl ?_
  refine g_iconst h dX11_proves_10 (by decide) ?_
  refine g_iconst h dX11_proves_11 (by decide) ?_
  refine g_cspi (rest := [.int (nI (rg n (nI 1) (nI 30)))]) h (c_rg hW wt (nI 0) (nI 2) ) lX11_rangeStatus mX11_102 (Nat.lt_of_lt_of_le (by decide) (Nat.le_refl _)) (by decide) rfl rfl rfl dX11_proves_12 ?_
  refine g_cspi (rest := []) h (c_fo hW (rg n (nI 1) (nI 30)) (rg wt (nI 0) (nI 2)) (by repeat (first | omega | exact rg_lt | exact ns_lt | exact ps_lt | exact gst_lt | exact ofS_lt | exact if_lt (by decide) (by decide) | apply fo_lt)) (by repeat (first | omega | exact rg_lt | exact ns_lt | exact ps_lt | exact gst_lt | exact ofS_lt | exact if_lt (by decide) (by decide) | apply fo_lt))) lX11_firstOf mX11_163 (Nat.lt_of_lt_of_le (by decide) (Nat.le_refl _)) (by decide) rfl rfl rfl dX11_proves_15 ?_
  refine g_istore (L' := [(0, .ref (w.1 12)), (1, .int i), (2, .int j), (3, .int hd), (4, .int n), (5, .int wt), (6, .int (nI (fo (rg n (nI 1) (nI 30)) (rg wt (nI 0) (nI 2)))))]) h dX11_proves_18 rfl (by decide) rfl ?_
  refine g_aload_n h dX11_proves_20 0 rfl ?_
  refine g_iload h dX11_proves_21 6 rfl ?_
  refine g_aload_n h dX11_proves_23 0 rfl ?_
  refine g_iload_n h dX11_proves_24 1 rfl ?_
  refine g_iload_n h dX11_proves_25 2 rfl ?_
  refine g_cvpi (rest := [.int (nI (fo (rg n (nI 1) (nI 30)) (rg wt (nI 0) (nI 2)))), .ref (w.1 12)]) h (c_ps hW i j μ (by first | exact hv | assumption | fail)) lX11_pairStatus mX11_209 (Nat.lt_of_lt_of_le (by decide) (Nat.le_refl _)) (by decide) sc_12 rfl rfl rfl rfl dX11_proves_26 ?_
  refine g_cspi (rest := [.ref (w.1 12)]) h (c_fo hW (fo (rg n (nI 1) (nI 30)) (rg wt (nI 0) (nI 2))) (ps μ i j) (by repeat (first | omega | exact rg_lt | exact ns_lt | exact ps_lt | exact gst_lt | exact ofS_lt | exact if_lt (by decide) (by decide) | apply fo_lt)) (by repeat (first | omega | exact rg_lt | exact ns_lt | exact ps_lt | exact gst_lt | exact ofS_lt | exact if_lt (by decide) (by decide) | apply fo_lt))) lX11_firstOf mX11_163 (Nat.lt_of_lt_of_le (by decide) (Nat.le_refl _)) (by decide) rfl rfl rfl dX11_proves_29 ?_
  refine g_cvi (rest := []) h (c_fails hW (fo (fo (rg n (nI 1) (nI 30)) (rg wt (nI 0) (nI 2))) (ps μ i j)) (by repeat (first | omega | exact rg_lt | exact ns_lt | exact ps_lt | exact gst_lt | exact ofS_lt | exact if_lt (by decide) (by decide) | apply fo_lt))) lX11_fails mX11_106 (Nat.lt_of_lt_of_le (by decide) (Nat.le_refl _)) (by decide) sc_12 rfl rfl rfl rfl dX11_proves_32 (fun σ_1 eσ_1 => ?_)
  obtain ⟨eσ_1_a, eσ_1_b⟩ := eσ_1
  have eσ_1_a : σ_1 14000 = (nI (fo (fo (rg n (nI 1) (nI 30)) (rg wt (nI 0) (nI 2))) (ps μ i j))) := eσ_1_a
  have eσ_1_b : ∀ a, (a ≠ 14000) → σ_1 a = σ a := eσ_1_b
  have ht14000_σ_1 : σ_1 14000 = (nI (fo (fo (rg n (nI 1) (nI 30)) (rg wt (nI 0) (nI 2))) (ps μ i j))) := eσ_1_a
  have hcFR_σ_1 : ∀ a, (a < 14900 ∧ a ≠ 14000) → σ_1 a = σ a := by intro a ha; exact Eq.trans (b := σ a) (eσ_1_b a (by first | omega | (simp only [vb] at *; omega))) (hcFR_σ a ha)
  have hvσ_1 : vw (vb 0) σ_1 = μ := by rw [vw_fr (σ := σ) (fun j _ _ => eσ_1_b _ (by first | omega | (simp only [vb] at *; omega)))]; first | exact hv | assumption
  refine g_ifB_eq h dX11_proves_35 (fun c35 => ?_) (fun c35 => ?_)
  ·
    have hS0 := nb0 c35
    obtain ⟨hs3, hs2⟩ := fo_0 hS0
    obtain ⟨hs0, hs1⟩ := fo_0 hs3
    obtain ⟨en, hn9⟩ := rg_N1 (by decide) hs0
    obtain ⟨ew, hw9⟩ := rg_N (by decide) hs1
    have h0 := ps_0 hs2
    obtain ⟨ei, hi9⟩ := nB_N hI h0.1
    obtain ⟨ej, hj9⟩ := nB_N hI h0.2.1
    rw [hs3]
    rw [ei, ej, ew, en]
    have hQ0 := mb_80 hI (j := 8 * toN i + toN j) (by omega)
    show G X w 12 40 [(0, .ref (w.1 12)), (1, .int (nI (toN i))), (2, .int (nI (toN j))), (3, .int hd), (4, .int (nI (toN n))), (5, .int (nI (toN wt))), (6, .int (nI 0))] [] σ_1
    refine g_aload_n h dX11_proves_40 0 rfl ?_
    refine g_getr h dX11_proves_41 gX11_23 sc_12 rfl ?_
    refine g_getr h dX11_proves_44 gX11_181 (sM_0 (m := 0) (by decide)) rfl ?_
    refine g_getr h dX11_proves_47 gX11_212 (sM_4 (m := 0) (by decide)) rfl ?_
    refine g_iload_n h dX11_proves_50 1 rfl ?_
    refine g_iload_n h dX11_proves_51 2 rfl ?_
    refine g_cspi (rest := [.ref (w.1 (mc 0 5))]) h (c_at hW (toN i) (toN j) ) lX5_at mX11_215 (Nat.lt_of_lt_of_le (by decide) (Nat.le_refl _)) (by decide) rfl rfl rfl dX11_proves_52 ?_
    refine g_iald h dX11_proves_55 (sM_5 (m := 0) (by decide)) (by omega) ?_
    refine g_top (y := μ (80 + (8 * (toN i) + (toN j)))) (vw_pic (b := (vb 0)) (k := 80 + (8 * (toN i) + (toN j))) (by first | exact hvσ_1 | assumption) (by omega)) ?_
    refine g_top (y := nI (nA μ (80 + (8 * (toN i) + (toN j))))) (mi_80 (by assumption) (by omega)) ?_
    have b9_55 : nA μ (80 + (8 * (toN i) + (toN j))) < 1000 := mb_80 (by assumption) (by omega)
    refine g_istore (L' := [(0, .ref (w.1 12)), (1, .int (nI (toN i))), (2, .int (nI (toN j))), (3, .int hd), (4, .int (nI (toN n))), (5, .int (nI (toN wt))), (6, .int (nI 0)), (7, .int (nI (nA μ (80 + (8 * (toN i) + (toN j))))))]) h dX11_proves_56 rfl (by decide) rfl ?_
    refine g_aload_n h dX11_proves_58 0 rfl ?_
    refine g_getr h dX11_proves_59 gX11_23 sc_12 rfl ?_
    refine g_getr h dX11_proves_62 gX11_181 (sM_0 (m := 0) (by decide)) rfl ?_
    refine g_getr h dX11_proves_65 gX11_185 (sM_4 (m := 0) (by decide)) rfl ?_
    refine g_iload_n h dX11_proves_68 1 rfl ?_
    refine g_iald h dX11_proves_69 (sM_7 (m := 0) (by decide)) (by omega) ?_
    refine g_top (y := μ (56 + (toN i))) (vw_pic (b := (vb 0)) (k := 56 + (toN i)) (by first | exact hvσ_1 | assumption) (by omega)) ?_
    refine g_iload_n h dX11_proves_70 2 rfl ?_
    refine g_cspi (rest := []) h (c_has hW (μ (56 + (toN i))) (toN j) (by omega)) lX5_has mX11_218 (Nat.lt_of_lt_of_le (by decide) (Nat.le_refl _)) (by decide) rfl rfl rfl dX11_proves_71 ?_
    refine g_istore (L' := [(0, .ref (w.1 12)), (1, .int (nI (toN i))), (2, .int (nI (toN j))), (3, .int hd), (4, .int (nI (toN n))), (5, .int (nI (toN wt))), (6, .int (nI 0)), (7, .int (nI (nA μ (80 + (8 * (toN i) + (toN j)))))), (8, .int (b2i (tb (μ (56 + (toN i))) (toN j))))]) h dX11_proves_74 rfl (by decide) rfl ?_
    refine g_iconst h dX11_proves_76 (by decide) ?_
    refine g_istore (L' := [(0, .ref (w.1 12)), (1, .int (nI (toN i))), (2, .int (nI (toN j))), (3, .int hd), (4, .int (nI (toN n))), (5, .int (nI (toN wt))), (6, .int (nI 0)), (7, .int (nI (nA μ (80 + (8 * (toN i) + (toN j)))))), (8, .int (b2i (tb (μ (56 + (toN i))) (toN j)))), (9, .int (nI 0))]) h dX11_proves_77 rfl (by decide) rfl ?_
    refine g_iconst h dX11_proves_79 (by decide) ?_
    refine g_istore (L' := [(0, .ref (w.1 12)), (1, .int (nI (toN i))), (2, .int (nI (toN j))), (3, .int hd), (4, .int (nI (toN n))), (5, .int (nI (toN wt))), (6, .int (nI 0)), (7, .int (nI (nA μ (80 + (8 * (toN i) + (toN j)))))), (8, .int (b2i (tb (μ (56 + (toN i))) (toN j)))), (9, .int (nI 0)), (10, .int (nI 0))]) h dX11_proves_80 rfl (by decide) rfl ?_
    have lp82 : ∀ (k9 : Nat) (q : Nat) (up : Bool) (tn : Nat) (k : Nat), (v_prv μ (nA μ (80 + (8 * toN i + toN j))) (tb (μ (56 + toN i)) (toN j)) hd k = (q, up, tn)) → (k ≤ toN n) → toN n - k < k9 → G X w 12 82 [(0, .ref (w.1 12)), (1, .int (nI (toN i))), (2, .int (nI (toN j))), (3, .int hd), (4, .int (nI (toN n))), (5, .int (nI (toN wt))), (6, .int (nI 0)), (7, .int (nI q)), (8, .int (b2i up)), (9, .int (nI tn)), (10, .int (nI k))] [] σ_1 := by
      intro k9
      induction k9 with
      | zero => intro q up tn k hT hk hm9; exact absurd hm9 (Nat.not_lt_zero _)
      | succ k9 ih82 =>
        intro q up tn k hT hk hm82
        have hl := v_prv_lt (μ := μ) (up := (tb (μ (56 + toN i)) (toN j))) (hd := hd) hQ0 k
        rw [hT] at hl
        have hq : q < 1000 := hl.1
        have hpv := prv_lt (h := tb hd k) hq
        have htn : tn ≤ k := hl.2
        refine g_iload h dX11_proves_82 10 rfl ?_
        refine g_iload h dX11_proves_84 4 rfl ?_
        refine g_icmpN_ge h dX11_proves_86 (by omega) (by omega) (fun c86 => ?_) (fun c86 => ?_)
        ·
          refine g_iload h dX11_proves_145 5 rfl ?_
          rcases (show toN wt = 0 ∨ toN wt = 1 ∨ toN wt = 2 by omega) with hc147 | hc147 | hc147
          ·
            refine g_lsw (off := 25) (tgt := 172) h dX11_proves_147 (by decide) (by rw [hc147]; decide) (by decide) ?_
            refine g_iload h dX11_proves_172 7 rfl ?_
            exact g_iret h hQ dX11_proves_174 (congrArg (fun z => some (Value.int z)) (show (an (fo (fo (rg n (nI 1) (nI 30)) (rg wt (nI 0) (nI 2))) (ps μ i j)) (v_proves (v_prv μ (nA μ (80 + (8 * toN i + toN j))) (tb (μ (56 + toN i)) (toN j)) hd (toN n)) (toN wt))) = (nI q) by first | exact an_yes (by exact hS0) (by rw [← show k = toN n from by omega, hT]; first | (simp [v_proves, c35, c86, hc147]; done) | (simp [v_proves, c35, c86, hc147]; rfl)) | exact an_no (k := (fo (fo (rg n (nI 1) (nI 30)) (rg wt (nI 0) (nI 2))) (ps μ i j))) (by first | rfl | (simp [fo, rg, ns, nB, ps, gst, ofS, offB, c35, c86, hc147]; done) | (simp [fo, rg, ns, nB, ps, gst, ofS, offB, c35, c86, hc147]; omega)) (by first | decide | omega | assumption | exact nb1 (by assumption)) | fail)) (by exact ⟨(by first | exact tk_eq (k := (fo (fo (rg n (nI 1) (nI 30)) (rg wt (nI 0) (nI 2))) (ps μ i j))) (by first | rfl | (simp [fo, rg, ns, nB, ps, gst, ofS, offB, c35, c86, hc147]; done) | (simp [fo, rg, ns, nB, ps, gst, ofS, offB, c35, c86, hc147]; omega)) ht14000_σ_1 | exact tk_eq (k := (fo (fo (rg n (nI 1) (nI 30)) (rg wt (nI 0) (nI 2))) (ps μ i j))) (by exact hS0) ht14000_σ_1 | fail), (by exact hcFR_σ_1)⟩)
          ·
            refine g_lsw (off := 28) (tgt := 175) h dX11_proves_147 (by decide) (by rw [hc147]; decide) (by decide) ?_
            refine g_iload h dX11_proves_175 8 rfl ?_
            refine g_cspi (rest := []) h (c_asN hW up ) lX11_asNumber mX11_170 (Nat.lt_of_lt_of_le (by decide) (Nat.le_refl _)) (by decide) rfl rfl rfl dX11_proves_177 ?_
            exact g_iret h hQ dX11_proves_180 (congrArg (fun z => some (Value.int z)) (show (an (fo (fo (rg n (nI 1) (nI 30)) (rg wt (nI 0) (nI 2))) (ps μ i j)) (v_proves (v_prv μ (nA μ (80 + (8 * toN i + toN j))) (tb (μ (56 + toN i)) (toN j)) hd (toN n)) (toN wt))) = (b2i up) by first | exact an_yes (by exact hS0) (by rw [← show k = toN n from by omega, hT]; first | (simp [v_proves, c35, c86, hc147]; done) | (simp [v_proves, c35, c86, hc147]; rfl)) | exact an_no (k := (fo (fo (rg n (nI 1) (nI 30)) (rg wt (nI 0) (nI 2))) (ps μ i j))) (by first | rfl | (simp [fo, rg, ns, nB, ps, gst, ofS, offB, c35, c86, hc147]; done) | (simp [fo, rg, ns, nB, ps, gst, ofS, offB, c35, c86, hc147]; omega)) (by first | decide | omega | assumption | exact nb1 (by assumption)) | fail)) (by exact ⟨(by first | exact tk_eq (k := (fo (fo (rg n (nI 1) (nI 30)) (rg wt (nI 0) (nI 2))) (ps μ i j))) (by first | rfl | (simp [fo, rg, ns, nB, ps, gst, ofS, offB, c35, c86, hc147]; done) | (simp [fo, rg, ns, nB, ps, gst, ofS, offB, c35, c86, hc147]; omega)) ht14000_σ_1 | exact tk_eq (k := (fo (fo (rg n (nI 1) (nI 30)) (rg wt (nI 0) (nI 2))) (ps μ i j))) (by exact hS0) ht14000_σ_1 | fail), (by exact hcFR_σ_1)⟩)
          ·
            refine g_lsw (off := 34) (tgt := 181) h dX11_proves_147 (by decide) (by rw [hc147]; decide) (by decide) ?_
            refine g_iload h dX11_proves_181 9 rfl ?_
            exact g_iret h hQ dX11_proves_183 (congrArg (fun z => some (Value.int z)) (show (an (fo (fo (rg n (nI 1) (nI 30)) (rg wt (nI 0) (nI 2))) (ps μ i j)) (v_proves (v_prv μ (nA μ (80 + (8 * toN i + toN j))) (tb (μ (56 + toN i)) (toN j)) hd (toN n)) (toN wt))) = (nI tn) by first | exact an_yes (by exact hS0) (by rw [← show k = toN n from by omega, hT]; first | (simp [v_proves, c35, c86, hc147]; done) | (simp [v_proves, c35, c86, hc147]; rfl)) | exact an_no (k := (fo (fo (rg n (nI 1) (nI 30)) (rg wt (nI 0) (nI 2))) (ps μ i j))) (by first | rfl | (simp [fo, rg, ns, nB, ps, gst, ofS, offB, c35, c86, hc147]; done) | (simp [fo, rg, ns, nB, ps, gst, ofS, offB, c35, c86, hc147]; omega)) (by first | decide | omega | assumption | exact nb1 (by assumption)) | fail)) (by exact ⟨(by first | exact tk_eq (k := (fo (fo (rg n (nI 1) (nI 30)) (rg wt (nI 0) (nI 2))) (ps μ i j))) (by first | rfl | (simp [fo, rg, ns, nB, ps, gst, ofS, offB, c35, c86, hc147]; done) | (simp [fo, rg, ns, nB, ps, gst, ofS, offB, c35, c86, hc147]; omega)) ht14000_σ_1 | exact tk_eq (k := (fo (fo (rg n (nI 1) (nI 30)) (rg wt (nI 0) (nI 2))) (ps μ i j))) (by exact hS0) ht14000_σ_1 | fail), (by exact hcFR_σ_1)⟩)
        ·
          refine g_iload h dX11_proves_89 7 rfl ?_
          refine g_iload_n h dX11_proves_91 3 rfl ?_
          refine g_iload h dX11_proves_92 10 rfl ?_
          refine g_cspi (rest := [.int (nI q)]) h (c_has hW hd k (by omega)) lX5_has mX11_218 (Nat.lt_of_lt_of_le (by decide) (Nat.le_refl _)) (by decide) rfl rfl rfl dX11_proves_94 ?_
          refine g_cspi (rest := []) h (c_quality hW q (tb hd k) (by omega)) lX3_qualityAfter mX11_329 (Nat.lt_of_lt_of_le (by decide) (Nat.le_refl _)) (by decide) rfl rfl rfl dX11_proves_97 ?_
          refine g_istore (L' := [(0, .ref (w.1 12)), (1, .int (nI (toN i))), (2, .int (nI (toN j))), (3, .int hd), (4, .int (nI (toN n))), (5, .int (nI (toN wt))), (6, .int (nI 0)), (7, .int (nI (prv q (tb hd k)))), (8, .int (b2i up)), (9, .int (nI tn)), (10, .int (nI k))]) h dX11_proves_100 rfl (by decide) rfl ?_
          refine g_aload_n h dX11_proves_102 0 rfl ?_
          refine g_getr h dX11_proves_103 gX11_23 sc_12 rfl ?_
          refine g_iload h dX11_proves_106 7 rfl ?_
          refine g_iload h dX11_proves_108 8 rfl ?_
          refine g_cvpi (rest := []) h (c_isUpAt hW (prv q (tb hd k)) up 0 μ (by first | omega | decide | fail) (by first | exact hvσ_1 | assumption | fail) (by assumption) (by omega)) lX5_isUpAt mX11_333 (Nat.lt_of_lt_of_le (by decide) (Nat.le_refl _)) (by decide) (sM_0 (m := 0) (by decide)) rfl rfl rfl rfl dX11_proves_110 ?_
          refine g_istore (L' := [(0, .ref (w.1 12)), (1, .int (nI (toN i))), (2, .int (nI (toN j))), (3, .int hd), (4, .int (nI (toN n))), (5, .int (nI (toN wt))), (6, .int (nI 0)), (7, .int (nI (prv q (tb hd k)))), (8, .int (b2i up)), (9, .int (nI tn)), (10, .int (nI k)), (11, .int (b2i (isU μ (prv q (tb hd k)) up)))]) h dX11_proves_113 rfl (by decide) rfl ?_
          refine g_iload h dX11_proves_115 9 rfl ?_
          refine g_iload h dX11_proves_117 11 rfl ?_
          refine g_iload h dX11_proves_119 8 rfl ?_
          refine g_icmpB_eq (p := (isU μ (prv q (tb hd k)) up)) (q := up) h dX11_proves_121 (fun c121 => ?_) (fun c121 => ?_)
          ·
            refine g_iconst h dX11_proves_128 (by decide) ?_
            refine g_cspi (rest := [.int (nI tn)]) h (c_asN hW false ) lX11_asNumber mX11_170 (Nat.lt_of_lt_of_le (by decide) (Nat.le_refl _)) (by decide) rfl rfl rfl dX11_proves_129 ?_
            refine g_top (y := nI 0) rfl ?_
            refine g_iaddN h dX11_proves_132  ?_
            refine g_istore (L' := [(0, .ref (w.1 12)), (1, .int (nI (toN i))), (2, .int (nI (toN j))), (3, .int hd), (4, .int (nI (toN n))), (5, .int (nI (toN wt))), (6, .int (nI 0)), (7, .int (nI (prv q (tb hd k)))), (8, .int (b2i up)), (9, .int (nI (tn + 0))), (10, .int (nI k)), (11, .int (b2i (isU μ (prv q (tb hd k)) up)))]) h dX11_proves_133 rfl (by decide) rfl ?_
            refine g_iload h dX11_proves_135 11 rfl ?_
            refine g_istore (L' := [(0, .ref (w.1 12)), (1, .int (nI (toN i))), (2, .int (nI (toN j))), (3, .int hd), (4, .int (nI (toN n))), (5, .int (nI (toN wt))), (6, .int (nI 0)), (7, .int (nI (prv q (tb hd k)))), (8, .int (b2i (isU μ (prv q (tb hd k)) up))), (9, .int (nI (tn + 0))), (10, .int (nI k)), (11, .int (b2i (isU μ (prv q (tb hd k)) up)))]) h dX11_proves_137 rfl (by decide) rfl ?_
            refine g_iincN (b := 1) (L' := [(0, .ref (w.1 12)), (1, .int (nI (toN i))), (2, .int (nI (toN j))), (3, .int hd), (4, .int (nI (toN n))), (5, .int (nI (toN wt))), (6, .int (nI 0)), (7, .int (nI (prv q (tb hd k)))), (8, .int (b2i (isU μ (prv q (tb hd k)) up))), (9, .int (nI (tn + 0))), (10, .int (nI (k + 1))), (11, .int (b2i (isU μ (prv q (tb hd k)) up)))]) h dX11_proves_139 10 rfl rfl (by decide) (by decide) rfl ?_
            refine g_goto h dX11_proves_142 ?_
            exact g_sub [0, 1, 2, 3, 4, 5, 6, 7, 8, 9, 10] rfl (ih82 (prv q (tb hd k)) (isU μ (prv q (tb hd k)) up) (tn + 0) (k + 1) (by simp only [v_prv, hT]; first | (rw [if_pos c114]; done) | (rw [if_neg (ne_of_bb c114)]; done) | (rw [if_pos c121]; done) | (rw [if_neg (ne_of_bb c121)]; done) | (simp [c35, c86, c121]; done)) (by omega) (by omega))
          ·
            refine g_iconst h dX11_proves_124 (by decide) ?_
            refine g_goto h dX11_proves_125 ?_
            refine g_cspi (rest := [.int (nI tn)]) h (c_asN hW true ) lX11_asNumber mX11_170 (Nat.lt_of_lt_of_le (by decide) (Nat.le_refl _)) (by decide) rfl rfl rfl dX11_proves_129 ?_
            refine g_top (y := nI 1) rfl ?_
            refine g_iaddN h dX11_proves_132  ?_
            refine g_istore (L' := [(0, .ref (w.1 12)), (1, .int (nI (toN i))), (2, .int (nI (toN j))), (3, .int hd), (4, .int (nI (toN n))), (5, .int (nI (toN wt))), (6, .int (nI 0)), (7, .int (nI (prv q (tb hd k)))), (8, .int (b2i up)), (9, .int (nI (tn + 1))), (10, .int (nI k)), (11, .int (b2i (isU μ (prv q (tb hd k)) up)))]) h dX11_proves_133 rfl (by decide) rfl ?_
            refine g_iload h dX11_proves_135 11 rfl ?_
            refine g_istore (L' := [(0, .ref (w.1 12)), (1, .int (nI (toN i))), (2, .int (nI (toN j))), (3, .int hd), (4, .int (nI (toN n))), (5, .int (nI (toN wt))), (6, .int (nI 0)), (7, .int (nI (prv q (tb hd k)))), (8, .int (b2i (isU μ (prv q (tb hd k)) up))), (9, .int (nI (tn + 1))), (10, .int (nI k)), (11, .int (b2i (isU μ (prv q (tb hd k)) up)))]) h dX11_proves_137 rfl (by decide) rfl ?_
            refine g_iincN (b := 1) (L' := [(0, .ref (w.1 12)), (1, .int (nI (toN i))), (2, .int (nI (toN j))), (3, .int hd), (4, .int (nI (toN n))), (5, .int (nI (toN wt))), (6, .int (nI 0)), (7, .int (nI (prv q (tb hd k)))), (8, .int (b2i (isU μ (prv q (tb hd k)) up))), (9, .int (nI (tn + 1))), (10, .int (nI (k + 1))), (11, .int (b2i (isU μ (prv q (tb hd k)) up)))]) h dX11_proves_139 10 rfl rfl (by decide) (by decide) rfl ?_
            refine g_goto h dX11_proves_142 ?_
            exact g_sub [0, 1, 2, 3, 4, 5, 6, 7, 8, 9, 10] rfl (ih82 (prv q (tb hd k)) (isU μ (prv q (tb hd k)) up) (tn + 1) (k + 1) (by simp only [v_prv, hT]; first | (rw [if_pos c114]; done) | (rw [if_neg (ne_of_bb c114)]; done) | (rw [if_pos c121]; done) | (rw [if_neg (ne_of_bb c121)]; done) | (simp [c35, c86, c121]; done)) (by omega) (by omega))
    exact lp82 (_) (nA μ (80 + (8 * (toN i) + (toN j)))) (tb (μ (56 + (toN i))) (toN j)) 0 0 (by rfl) (by omega) (Nat.lt_succ_self _)
  ·
    refine g_iconstv h dX11_proves_38 (v := (-1)) (by decide) ?_
    exact g_iret h hQ dX11_proves_39 (congrArg (fun z => some (Value.int z)) (show (an (fo (fo (rg n (nI 1) (nI 30)) (rg wt (nI 0) (nI 2))) (ps μ i j)) (v_proves (v_prv μ (nA μ (80 + (8 * toN i + toN j))) (tb (μ (56 + toN i)) (toN j)) hd (toN n)) (toN wt))) = (-1) by first | exact an_yes (by exact hS0) (by rw [← show k = toN n from by omega, hT]; first | (simp [v_proves, c35]; done) | (simp [v_proves, c35]; rfl)) | exact an_no (k := (fo (fo (rg n (nI 1) (nI 30)) (rg wt (nI 0) (nI 2))) (ps μ i j))) (by first | rfl | (simp [fo, rg, ns, nB, ps, gst, ofS, offB, c35]; done) | (simp [fo, rg, ns, nB, ps, gst, ofS, offB, c35]; omega)) (by first | decide | omega | assumption | exact nb1 (by assumption)) | fail)) (by exact ⟨(by first | exact tk_eq (k := (fo (fo (rg n (nI 1) (nI 30)) (rg wt (nI 0) (nI 2))) (ps μ i j))) (by first | rfl | (simp [fo, rg, ns, nB, ps, gst, ofS, offB, c35]; done) | (simp [fo, rg, ns, nB, ps, gst, ofS, offB, c35]; omega)) ht14000_σ_1 | exact tk_eq (k := (fo (fo (rg n (nI 1) (nI 30)) (rg wt (nI 0) (nI 2))) (ps μ i j))) (by exact hS0) ht14000_σ_1 | fail), (by exact hcFR_σ_1)⟩)

set_option maxRecDepth 100000 in
set_option maxHeartbeats 4000000 in
theorem q_older {l : Launch} {w : Wd} (hW : Wi w) {σ : Mem} (a : Int32) (b : Int32)  (μ : Nat → Int32) (hv : vw 0 σ = μ) (hI : MI μ) : MC l w qX12_older 2 [.ref (w.1 0), .int a, .int b] σ (some (.int (an (fo (rg a (nI 0) (nI 15)) (rg b (nI 0) (nI 15))) (b2i (oldB (toN a) (toN b)))))) (fun σ' => (σ' 4000 = (nI (fo (rg a (nI 0) (nI 15)) (rg b (nI 0) (nI 15))))) ∧ (∀ a, ((a < 4900 ∨ 6000 ≤ a) ∧ a ≠ 4000) → σ' a = σ a)) := by
  refine MC.of hW (by decide +kernel) (Nat.le_of_ble_eq_true rfl) (fun X h hQ hnm => ?_)
  have h : Fx X w cX12_older 3 RX12 2 := h
  have hQ : Qx X w (some .int) (some (.int (an (fo (rg a (nI 0) (nI 15)) (rg b (nI 0) (nI 15))) (b2i (oldB (toN a) (toN b)))))) (fun σ' => (σ' 4000 = (nI (fo (rg a (nI 0) (nI 15)) (rg b (nI 0) (nI 15))))) ∧ (∀ a, ((a < 4900 ∨ 6000 ≤ a) ∧ a ≠ 4000) → σ' a = σ a)) := hQ
  have hN8 := mi_8 hI
  have hcFR_σ : ∀ a, ((a < 4900 ∨ 6000 ≤ a) ∧ a ≠ 4000) → σ a = σ a := fun _ _ => rfl
  show G X w 3 0 [(0, .ref (w.1 0)), (1, .int a), (2, .int b)] [] σ
  refine g_iload_n h dX12_older_0 1 rfl ?_
  refine g_iconst h dX12_older_1 (by decide) ?_
  refine g_bipush h dX12_older_2 (by decide) ?_
  refine g_cspi (rest := []) h (r_isFrom hW a (nI 0) (nI 15) ) lX12_isFrom mX12_134 (Nat.lt_of_lt_of_le (by decide) (Nat.le_refl _)) (by decide) rfl rfl rfl dX12_older_4 ?_
  refine g_ifB_eq h dX12_older_7 (fun c7 => ?_) (fun c7 => ?_)
  ·
    refine g_aload_n h dX12_older_41 0 rfl ?_
    refine g_iconst h dX12_older_42 (by decide) ?_
    refine g_cvi (rest := []) h (r_refuse hW (nI 1) ) lX12_refuse mX12_272 (Nat.lt_of_lt_of_le (by decide) (Nat.le_refl _)) (by decide) sc_0 rfl rfl rfl rfl dX12_older_43 (fun σ_1 eσ_1 => ?_)
    have eσ_1_a : σ_1 = upd σ 4000 (nI 1) := eσ_1
    have ht4000_σ_1 : σ_1 4000 = (nI 1) := by rw [eσ_1_a]; exact upd_eq
    have hcFR_σ_1 : ∀ a, ((a < 4900 ∨ 6000 ≤ a) ∧ a ≠ 4000) → σ_1 a = σ a := by intro a ha; exact Eq.trans (b := σ a) (by rw [eσ_1_a, upd_ne (by first | omega | (simp only [vb] at *; omega))]) (hcFR_σ a ha)
    have hvσ_1 : vw 0 σ_1 = μ := by rw [eσ_1_a, vw_out (by omega)]; first | exact hv | assumption
    exact g_iret h hQ dX12_older_46 (congrArg (fun z => some (Value.int z)) (show (an (fo (rg a (nI 0) (nI 15)) (rg b (nI 0) (nI 15))) (b2i (oldB (toN a) (toN b)))) = (-1) by first | exact an_yes (by first | rfl | (simp [fo, rg, ns, nB, ps, gst, ofS, offB, c7]; done) | (simp [fo, rg, ns, nB, ps, gst, ofS, offB, c7]; omega)) (by first | rfl | (rw [‹oldB (toN a) (toN b) = _›]; rfl)) | exact an_no (k := 1) (by first | rfl | (simp [fo, rg, ns, nB, ps, gst, ofS, offB, c7]; done) | (simp [fo, rg, ns, nB, ps, gst, ofS, offB, c7]; omega)) (by first | decide | omega | assumption | exact nb1 (by assumption)) | fail)) (by exact ⟨(by first | exact tk_eq (k := 1) (by first | rfl | (simp [fo, rg, ns, nB, ps, gst, ofS, offB, c7]; done) | (simp [fo, rg, ns, nB, ps, gst, ofS, offB, c7]; omega)) ht4000_σ_1 | exact tk_eq (k := 1) (by first | rfl | (simp [fo, rg, ns, nB, ps, gst, ofS, offB, c7]; done) | (simp [fo, rg, ns, nB, ps, gst, ofS, offB, c7]; omega)) ht4000_σ_1 | fail), (by exact hcFR_σ_1)⟩)
  ·
    refine g_iload_n h dX12_older_10 2 rfl ?_
    refine g_iconst h dX12_older_11 (by decide) ?_
    refine g_bipush h dX12_older_12 (by decide) ?_
    refine g_cspi (rest := []) h (r_isFrom hW b (nI 0) (nI 15) ) lX12_isFrom mX12_134 (Nat.lt_of_lt_of_le (by decide) (Nat.le_refl _)) (by decide) rfl rfl rfl dX12_older_14 ?_
    refine g_ifB_eq h dX12_older_17 (fun c17 => ?_) (fun c17 => ?_)
    ·
      refine g_aload_n h dX12_older_41 0 rfl ?_
      refine g_iconst h dX12_older_42 (by decide) ?_
      refine g_cvi (rest := []) h (r_refuse hW (nI 1) ) lX12_refuse mX12_272 (Nat.lt_of_lt_of_le (by decide) (Nat.le_refl _)) (by decide) sc_0 rfl rfl rfl rfl dX12_older_43 (fun σ_2 eσ_2 => ?_)
      have eσ_2_a : σ_2 = upd σ 4000 (nI 1) := eσ_2
      have ht4000_σ_2 : σ_2 4000 = (nI 1) := by rw [eσ_2_a]; exact upd_eq
      have hcFR_σ_2 : ∀ a, ((a < 4900 ∨ 6000 ≤ a) ∧ a ≠ 4000) → σ_2 a = σ a := by intro a ha; exact Eq.trans (b := σ a) (by rw [eσ_2_a, upd_ne (by first | omega | (simp only [vb] at *; omega))]) (hcFR_σ a ha)
      have hvσ_2 : vw 0 σ_2 = μ := by rw [eσ_2_a, vw_out (by omega)]; first | exact hv | assumption
      exact g_iret h hQ dX12_older_46 (congrArg (fun z => some (Value.int z)) (show (an (fo (rg a (nI 0) (nI 15)) (rg b (nI 0) (nI 15))) (b2i (oldB (toN a) (toN b)))) = (-1) by first | exact an_yes (by first | rfl | (simp [fo, rg, ns, nB, ps, gst, ofS, offB, c7, c17]; done) | (simp [fo, rg, ns, nB, ps, gst, ofS, offB, c7, c17]; omega)) (by first | rfl | (rw [‹oldB (toN a) (toN b) = _›]; rfl)) | exact an_no (k := 1) (by first | rfl | (simp [fo, rg, ns, nB, ps, gst, ofS, offB, c7, c17]; done) | (simp [fo, rg, ns, nB, ps, gst, ofS, offB, c7, c17]; omega)) (by first | decide | omega | assumption | exact nb1 (by assumption)) | fail)) (by exact ⟨(by first | exact tk_eq (k := 1) (by first | rfl | (simp [fo, rg, ns, nB, ps, gst, ofS, offB, c7, c17]; done) | (simp [fo, rg, ns, nB, ps, gst, ofS, offB, c7, c17]; omega)) ht4000_σ_2 | exact tk_eq (k := 1) (by first | rfl | (simp [fo, rg, ns, nB, ps, gst, ofS, offB, c7, c17]; done) | (simp [fo, rg, ns, nB, ps, gst, ofS, offB, c7, c17]; omega)) ht4000_σ_2 | fail), (by exact hcFR_σ_2)⟩)
    ·
      obtain ⟨ea, ha9⟩ := fr_N (by decide) c7
      obtain ⟨eb, hb9⟩ := fr_N (by decide) c17
      rw [ea, eb]
      show G X w 3 20 [(0, .ref (w.1 0)), (1, .int (nI (toN a))), (2, .int (nI (toN b)))] [] σ
      refine g_aload_n h dX12_older_20 0 rfl ?_
      refine g_aload_n h dX12_older_21 0 rfl ?_
      refine g_iload_n h dX12_older_22 1 rfl ?_
      refine g_iload_n h dX12_older_23 2 rfl ?_
      refine g_cvpi (rest := [.ref (w.1 0)]) h (r_isOlder hW (toN a) (toN b) (by omega) (by omega)) lX12_isOlder mX12_138 (Nat.lt_of_lt_of_le (by decide) (Nat.le_refl _)) (by decide) sc_0 rfl rfl rfl rfl dX12_older_24 ?_
      refine g_ifB_eq h dX12_older_27 (fun c27 => ?_) (fun c27 => ?_)
      ·
        refine g_iconst h dX12_older_34 (by decide) ?_
        refine g_cvi (rest := []) h (r_gives hW (nI 0) ) lX12_gives mX12_281 (Nat.lt_of_lt_of_le (by decide) (Nat.le_refl _)) (by decide) sc_0 rfl rfl rfl rfl dX12_older_35 (fun σ_3 eσ_3 => ?_)
        have eσ_3_a : σ_3 = upd σ 4000 (nI 0) := eσ_3
        have ht4000_σ_3 : σ_3 4000 = (nI 0) := by rw [eσ_3_a]; exact upd_eq
        have hcFR_σ_3 : ∀ a, ((a < 4900 ∨ 6000 ≤ a) ∧ a ≠ 4000) → σ_3 a = σ a := by intro a ha; exact Eq.trans (b := σ a) (by rw [eσ_3_a, upd_ne (by first | omega | (simp only [vb] at *; omega))]) (hcFR_σ a ha)
        have hvσ_3 : vw 0 σ_3 = μ := by rw [eσ_3_a, vw_out (by omega)]; first | exact hv | assumption
        refine g_goto h dX12_older_38 ?_
        exact g_iret h hQ dX12_older_46 (congrArg (fun z => some (Value.int z)) (show (an (fo (rg a (nI 0) (nI 15)) (rg b (nI 0) (nI 15))) (b2i (oldB (toN a) (toN b)))) = (nI 0) by first | exact an_yes (by first | rfl | (simp [fo, rg, ns, nB, ps, gst, ofS, offB, c7, c17, c27]; done) | (simp [fo, rg, ns, nB, ps, gst, ofS, offB, c7, c17, c27]; omega)) (by first | rfl | (rw [‹oldB (toN a) (toN b) = _›]; rfl)) | exact an_no (k := 0) (by first | rfl | (simp [fo, rg, ns, nB, ps, gst, ofS, offB, c7, c17, c27]; done) | (simp [fo, rg, ns, nB, ps, gst, ofS, offB, c7, c17, c27]; omega)) (by first | decide | omega | assumption | exact nb1 (by assumption)) | fail)) (by exact ⟨(by first | exact tk_eq (k := 0) (by first | rfl | (simp [fo, rg, ns, nB, ps, gst, ofS, offB, c7, c17, c27]; done) | (simp [fo, rg, ns, nB, ps, gst, ofS, offB, c7, c17, c27]; omega)) ht4000_σ_3 | exact tk_eq (k := 0) (by first | rfl | (simp [fo, rg, ns, nB, ps, gst, ofS, offB, c7, c17, c27]; done) | (simp [fo, rg, ns, nB, ps, gst, ofS, offB, c7, c17, c27]; omega)) ht4000_σ_3 | fail), (by exact hcFR_σ_3)⟩)
      ·
        refine g_iconst h dX12_older_30 (by decide) ?_
        refine g_goto h dX12_older_31 ?_
        refine g_cvi (rest := []) h (r_gives hW (nI 1) ) lX12_gives mX12_281 (Nat.lt_of_lt_of_le (by decide) (Nat.le_refl _)) (by decide) sc_0 rfl rfl rfl rfl dX12_older_35 (fun σ_4 eσ_4 => ?_)
        have eσ_4_a : σ_4 = upd σ 4000 (nI 0) := eσ_4
        have ht4000_σ_4 : σ_4 4000 = (nI 0) := by rw [eσ_4_a]; exact upd_eq
        have hcFR_σ_4 : ∀ a, ((a < 4900 ∨ 6000 ≤ a) ∧ a ≠ 4000) → σ_4 a = σ a := by intro a ha; exact Eq.trans (b := σ a) (by rw [eσ_4_a, upd_ne (by first | omega | (simp only [vb] at *; omega))]) (hcFR_σ a ha)
        have hvσ_4 : vw 0 σ_4 = μ := by rw [eσ_4_a, vw_out (by omega)]; first | exact hv | assumption
        refine g_goto h dX12_older_38 ?_
        exact g_iret h hQ dX12_older_46 (congrArg (fun z => some (Value.int z)) (show (an (fo (rg a (nI 0) (nI 15)) (rg b (nI 0) (nI 15))) (b2i (oldB (toN a) (toN b)))) = (nI 1) by first | exact an_yes (by first | rfl | (simp [fo, rg, ns, nB, ps, gst, ofS, offB, c7, c17, c27]; done) | (simp [fo, rg, ns, nB, ps, gst, ofS, offB, c7, c17, c27]; omega)) (by first | rfl | (rw [‹oldB (toN a) (toN b) = _›]; rfl)) | exact an_no (k := 0) (by first | rfl | (simp [fo, rg, ns, nB, ps, gst, ofS, offB, c7, c17, c27]; done) | (simp [fo, rg, ns, nB, ps, gst, ofS, offB, c7, c17, c27]; omega)) (by first | decide | omega | assumption | exact nb1 (by assumption)) | fail)) (by exact ⟨(by first | exact tk_eq (k := 0) (by first | rfl | (simp [fo, rg, ns, nB, ps, gst, ofS, offB, c7, c17, c27]; done) | (simp [fo, rg, ns, nB, ps, gst, ofS, offB, c7, c17, c27]; omega)) ht4000_σ_4 | exact tk_eq (k := 0) (by first | rfl | (simp [fo, rg, ns, nB, ps, gst, ofS, offB, c7, c17, c27]; done) | (simp [fo, rg, ns, nB, ps, gst, ofS, offB, c7, c17, c27]; omega)) ht4000_σ_4 | fail), (by exact hcFR_σ_4)⟩)

set_option maxRecDepth 100000 in
set_option maxHeartbeats 4000000 in
theorem p_older {l : Launch} {w : Wd} (hW : Wi w) {σ : Mem} (a : Int32) (b : Int32)  (μ : Nat → Int32) (hv : vw (vb 0) σ = μ) (hI : MI μ) : MC l w qX11_older 1 [.ref (w.1 12), .int a, .int b] σ (some (.int (an (fo (rg a (nI 0) (nI 15)) (rg b (nI 0) (nI 15))) (b2i (oldB (toN a) (toN b)))))) (fun σ' => (σ' 14000 = (nI (fo (rg a (nI 0) (nI 15)) (rg b (nI 0) (nI 15))))) ∧ (∀ a, (a < 14900 ∧ a ≠ 14000) → σ' a = σ a)) := by
  refine MC.of hW (by decide +kernel) (Nat.le_of_ble_eq_true rfl) (fun X h hQ hnm => ?_)
  have h : Fx X w cX11_older 3 RX11 1 := h
  have hQ : Qx X w (some .int) (some (.int (an (fo (rg a (nI 0) (nI 15)) (rg b (nI 0) (nI 15))) (b2i (oldB (toN a) (toN b)))))) (fun σ' => (σ' 14000 = (nI (fo (rg a (nI 0) (nI 15)) (rg b (nI 0) (nI 15))))) ∧ (∀ a, (a < 14900 ∧ a ≠ 14000) → σ' a = σ a)) := hQ
  have hN8 := mi_8 hI
  have hcFR_σ : ∀ a, (a < 14900 ∧ a ≠ 14000) → σ a = σ a := fun _ _ => rfl
  show G X w 3 0 [(0, .ref (w.1 12)), (1, .int a), (2, .int b)] [] σ
  refine g_aload_n h dX11_older_0 0 rfl ?_
  refine g_iload_n h dX11_older_1 1 rfl ?_
  refine g_iconst h dX11_older_2 (by decide) ?_
  refine g_bipush h dX11_older_3 (by decide) ?_
  refine g_cspi (rest := [.ref (w.1 12)]) h (c_rg hW a (nI 0) (nI 15) ) lX11_rangeStatus mX11_102 (Nat.lt_of_lt_of_le (by decide) (Nat.le_refl _)) (by decide) rfl rfl rfl dX11_older_5 ?_
  refine g_iload_n h dX11_older_8 2 rfl ?_
  refine g_iconst h dX11_older_9 (by decide) ?_
  refine g_bipush h dX11_older_10 (by decide) ?_
  refine g_cspi (rest := [.int (nI (rg a (nI 0) (nI 15))), .ref (w.1 12)]) h (c_rg hW b (nI 0) (nI 15) ) lX11_rangeStatus mX11_102 (Nat.lt_of_lt_of_le (by decide) (Nat.le_refl _)) (by decide) rfl rfl rfl dX11_older_12 ?_
  refine g_cspi (rest := [.ref (w.1 12)]) h (c_fo hW (rg a (nI 0) (nI 15)) (rg b (nI 0) (nI 15)) (by repeat (first | omega | exact rg_lt | exact ns_lt | exact ps_lt | exact gst_lt | exact ofS_lt | exact if_lt (by decide) (by decide) | apply fo_lt)) (by repeat (first | omega | exact rg_lt | exact ns_lt | exact ps_lt | exact gst_lt | exact ofS_lt | exact if_lt (by decide) (by decide) | apply fo_lt))) lX11_firstOf mX11_163 (Nat.lt_of_lt_of_le (by decide) (Nat.le_refl _)) (by decide) rfl rfl rfl dX11_older_15 ?_
  refine g_cvi (rest := []) h (c_fails hW (fo (rg a (nI 0) (nI 15)) (rg b (nI 0) (nI 15))) (by repeat (first | omega | exact rg_lt | exact ns_lt | exact ps_lt | exact gst_lt | exact ofS_lt | exact if_lt (by decide) (by decide) | apply fo_lt))) lX11_fails mX11_106 (Nat.lt_of_lt_of_le (by decide) (Nat.le_refl _)) (by decide) sc_12 rfl rfl rfl rfl dX11_older_18 (fun σ_1 eσ_1 => ?_)
  obtain ⟨eσ_1_a, eσ_1_b⟩ := eσ_1
  have eσ_1_a : σ_1 14000 = (nI (fo (rg a (nI 0) (nI 15)) (rg b (nI 0) (nI 15)))) := eσ_1_a
  have eσ_1_b : ∀ a, (a ≠ 14000) → σ_1 a = σ a := eσ_1_b
  have ht14000_σ_1 : σ_1 14000 = (nI (fo (rg a (nI 0) (nI 15)) (rg b (nI 0) (nI 15)))) := eσ_1_a
  have hcFR_σ_1 : ∀ a, (a < 14900 ∧ a ≠ 14000) → σ_1 a = σ a := by intro a ha; exact Eq.trans (b := σ a) (eσ_1_b a (by first | omega | (simp only [vb] at *; omega))) (hcFR_σ a ha)
  have hvσ_1 : vw (vb 0) σ_1 = μ := by rw [vw_fr (σ := σ) (fun j _ _ => eσ_1_b _ (by first | omega | (simp only [vb] at *; omega)))]; first | exact hv | assumption
  refine g_ifB_eq h dX11_older_21 (fun c21 => ?_) (fun c21 => ?_)
  ·
    have hS0 := nb0 c21
    obtain ⟨hs1, hs2⟩ := fo_0 hS0
    obtain ⟨ea, ha9⟩ := rg_N (by decide) hs1
    obtain ⟨eb, hb9⟩ := rg_N (by decide) hs2
    rw [ea, eb]
    show G X w 3 26 [(0, .ref (w.1 12)), (1, .int (nI (toN a))), (2, .int (nI (toN b)))] [] σ_1
    refine g_iload_n h dX11_older_26 1 rfl ?_
    refine g_iload_n h dX11_older_27 2 rfl ?_
    refine g_cspi (rest := []) h (c_isOlder hW (toN a) (toN b) (by omega) (by omega)) lX6_isOlder mX11_366 (Nat.lt_of_lt_of_le (by decide) (Nat.le_refl _)) (by decide) rfl rfl rfl dX11_older_28 ?_
    refine g_cspi (rest := []) h (c_asN hW (oldB (toN a) (toN b)) ) lX11_asNumber mX11_170 (Nat.lt_of_lt_of_le (by decide) (Nat.le_refl _)) (by decide) rfl rfl rfl dX11_older_31 ?_
    exact g_iret h hQ dX11_older_34 (congrArg (fun z => some (Value.int z)) (show (an (fo (rg a (nI 0) (nI 15)) (rg b (nI 0) (nI 15))) (b2i (oldB (toN a) (toN b)))) = (b2i (oldB (toN a) (toN b))) by first | exact an_yes (by exact hS0) (by rfl) | exact an_no (k := (fo (rg a (nI 0) (nI 15)) (rg b (nI 0) (nI 15)))) (by first | rfl | (simp [fo, rg, ns, nB, ps, gst, ofS, offB, c21]; done) | (simp [fo, rg, ns, nB, ps, gst, ofS, offB, c21]; omega)) (by first | decide | omega | assumption | exact nb1 (by assumption)) | fail)) (by exact ⟨(by first | exact tk_eq (k := (fo (rg a (nI 0) (nI 15)) (rg b (nI 0) (nI 15)))) (by first | rfl | (simp [fo, rg, ns, nB, ps, gst, ofS, offB, c21]; done) | (simp [fo, rg, ns, nB, ps, gst, ofS, offB, c21]; omega)) ht14000_σ_1 | exact tk_eq (k := (fo (rg a (nI 0) (nI 15)) (rg b (nI 0) (nI 15)))) (by exact hS0) ht14000_σ_1 | fail), (by exact hcFR_σ_1)⟩)
  ·
    refine g_iconstv h dX11_older_24 (v := (-1)) (by decide) ?_
    exact g_iret h hQ dX11_older_25 (congrArg (fun z => some (Value.int z)) (show (an (fo (rg a (nI 0) (nI 15)) (rg b (nI 0) (nI 15))) (b2i (oldB (toN a) (toN b)))) = (-1) by first | exact an_yes (by exact hS0) (by rfl) | exact an_no (k := (fo (rg a (nI 0) (nI 15)) (rg b (nI 0) (nI 15)))) (by first | rfl | (simp [fo, rg, ns, nB, ps, gst, ofS, offB, c21]; done) | (simp [fo, rg, ns, nB, ps, gst, ofS, offB, c21]; omega)) (by first | decide | omega | assumption | exact nb1 (by assumption)) | fail)) (by exact ⟨(by first | exact tk_eq (k := (fo (rg a (nI 0) (nI 15)) (rg b (nI 0) (nI 15)))) (by first | rfl | (simp [fo, rg, ns, nB, ps, gst, ofS, offB, c21]; done) | (simp [fo, rg, ns, nB, ps, gst, ofS, offB, c21]; omega)) ht14000_σ_1 | exact tk_eq (k := (fo (rg a (nI 0) (nI 15)) (rg b (nI 0) (nI 15)))) (by exact hS0) ht14000_σ_1 | fail), (by exact hcFR_σ_1)⟩)

set_option maxRecDepth 100000 in
set_option maxHeartbeats 4000000 in
theorem q_status {l : Launch} {w : Wd} (hW : Wi w) {σ : Mem} (z : Int32) (ht4000_σ : σ 4000 = z) : MC l w qX12_status 0 [.ref (w.1 0)] σ (some (.int z)) (fun σ' => σ' = σ) := by
  refine MC.of hW (by decide +kernel) (Nat.le_of_ble_eq_true rfl) (fun X h hQ hnm => ?_)
  have h : Fx X w cX12_status 1 RX12 0 := h
  have hQ : Qx X w (some .int) (some (.int z)) (fun σ' => σ' = σ) := hQ
  show G X w 1 0 [(0, .ref (w.1 0))] [] σ
  refine g_aload_n h dX12_status_0 0 rfl ?_
  refine g_geti h dX12_status_1 gX12_54 sc_0 rfl ?_
  refine g_top (y := z) (by first | exact ht4000_σ | assumption) ?_
  exact g_iret h hQ dX12_status_4 rfl rfl

set_option maxRecDepth 100000 in
set_option maxHeartbeats 4000000 in
theorem p_status {l : Launch} {w : Wd} (hW : Wi w) {σ : Mem} (z : Int32) (ht14000_σ : σ 14000 = z) : MC l w qX11_status 0 [.ref (w.1 12)] σ (some (.int z)) (fun σ' => σ' = σ) := by
  refine MC.of hW (by decide +kernel) (Nat.le_of_ble_eq_true rfl) (fun X h hQ hnm => ?_)
  have h : Fx X w cX11_status 1 RX11 0 := h
  have hQ : Qx X w (some .int) (some (.int z)) (fun σ' => σ' = σ) := hQ
  show G X w 1 0 [(0, .ref (w.1 12))] [] σ
  refine g_aload_n h dX11_status_0 0 rfl ?_
  refine g_geti h dX11_status_1 gX11_92 sc_12 rfl ?_
  refine g_top (y := z) (by first | exact ht14000_σ | assumption) ?_
  exact g_iret h hQ dX11_status_4 rfl rfl

theorem lk01 {a : Int32} (h0 : a ≠ nI 0) (h1 : a ≠ nI 1) : Op.lookupswitch.offset [(0, 27), (1, 32)] 37 a.toInt = 37 := by
  have e0 : ¬ (0 : Int) = a.toInt := fun e => h0 (Int32.toInt_inj.mp (by rw [← e]; rfl))
  have e1 : ¬ (1 : Int) = a.toInt := fun e => h1 (Int32.toInt_inj.mp (by rw [← e]; rfl))
  rw [Op.lookupswitch.offset_cons, if_neg e0, Op.lookupswitch.offset_cons, if_neg e1]
  rfl
theorem i01 (a : Int32) : a = nI 0 ∨ a = nI 1 ∨ (a ≠ nI 0 ∧ a ≠ nI 1) := by
  by_cases c : a = nI 0
  · exact Or.inl c
  · by_cases d : a = nI 1
    · exact Or.inr (Or.inl d)
    · exact Or.inr (Or.inr ⟨c, d⟩)

set_option maxRecDepth 100000 in
set_option maxHeartbeats 4000000 in
theorem q_fault {l : Launch} {w : Wd} (hW : Wi w) {σ : Mem} (a fk fp : Int32) (ht4003_σ : σ 4003 = fk) (ht4004_σ : σ 4004 = fp) : MC l w qX12_fault 0 [.ref (w.1 0), .int a] σ (some (.int (if a = nI 0 then fk else if a = nI 1 then fp else -1))) (fun σ' => σ' = σ) := by
  refine MC.of hW (by decide +kernel) (Nat.le_of_ble_eq_true rfl) (fun X h hQ hnm => ?_)
  have h : Fx X w cX12_fault 2 RX12 0 := h
  have hQ : Qx X w (some .int) (some (.int (if a = nI 0 then fk else if a = nI 1 then fp else -1))) (fun σ' => σ' = σ) := hQ
  show G X w 2 0 [(0, .ref (w.1 0)), (1, .int a)] [] σ
  refine g_iload_n h dX12_fault_0 1 rfl ?_
  refine g_if_ne h dX12_fault_1 (fun c1 => ?_) (fun c1 => ?_)
  ·
    refine g_iload_n h dX12_fault_11 1 rfl ?_
    refine g_iconst h dX12_fault_12 (by decide) ?_
    refine g_icmp_ne h dX12_fault_13 (fun c13 => ?_) (fun c13 => ?_)
    ·
      refine g_iconstv h dX12_fault_23 (v := (-1)) (by decide) ?_
      exact g_iret h hQ dX12_fault_24 (congrArg (fun z => some (Value.int z)) (show (if a = nI 0 then fk else if a = nI 1 then fp else -1) = (-1) by first | (rw [if_pos (by assumption)]; done) | (rw [if_neg (by assumption), if_pos (by assumption)]; done) | (rw [if_neg (by assumption), if_neg (by assumption)]; done) | fail)) rfl
    ·
      refine g_aload_n h dX12_fault_16 0 rfl ?_
      refine g_geti h dX12_fault_17 gX12_35 sc_0 rfl ?_
      refine g_top (y := fp) (by first | exact ht4004_σ | assumption) ?_
      refine g_goto h dX12_fault_20 ?_
      exact g_iret h hQ dX12_fault_24 (congrArg (fun z => some (Value.int z)) (show (if a = nI 0 then fk else if a = nI 1 then fp else -1) = fp by first | (rw [if_pos (by assumption)]; done) | (rw [if_neg (by assumption), if_pos (by assumption)]; done) | (rw [if_neg (by assumption), if_neg (by assumption)]; done) | fail)) rfl
  ·
    refine g_aload_n h dX12_fault_4 0 rfl ?_
    refine g_geti h dX12_fault_5 gX12_39 sc_0 rfl ?_
    refine g_top (y := fk) (by first | exact ht4003_σ | assumption) ?_
    refine g_goto h dX12_fault_8 ?_
    exact g_iret h hQ dX12_fault_24 (congrArg (fun z => some (Value.int z)) (show (if a = nI 0 then fk else if a = nI 1 then fp else -1) = fk by first | (rw [if_pos (by assumption)]; done) | (rw [if_neg (by assumption), if_pos (by assumption)]; done) | (rw [if_neg (by assumption), if_neg (by assumption)]; done) | fail)) rfl

set_option maxRecDepth 100000 in
set_option maxHeartbeats 4000000 in
theorem p_fault {l : Launch} {w : Wd} (hW : Wi w) {σ : Mem} (a fk fp : Int32) (ht14003_σ : σ 14003 = fk) (ht14004_σ : σ 14004 = fp) : MC l w qX11_fault 0 [.ref (w.1 12), .int a] σ (some (.int (if a = nI 0 then fk else if a = nI 1 then fp else -1))) (fun σ' => σ' = σ) := by
  refine MC.of hW (by decide +kernel) (Nat.le_of_ble_eq_true rfl) (fun X h hQ hnm => ?_)
  have h : Fx X w cX11_fault 2 RX11 0 := h
  have hQ : Qx X w (some .int) (some (.int (if a = nI 0 then fk else if a = nI 1 then fp else -1))) (fun σ' => σ' = σ) := hQ
  show G X w 2 0 [(0, .ref (w.1 12)), (1, .int a)] [] σ
  rcases i01 a with ha | ha | ha
  ·
    rw [ha]
    show G X w 2 0 [(0, .ref (w.1 12)), (1, .int (nI 0))] [] σ
    refine g_iload_n h dX11_fault_0 1 rfl ?_
    refine g_lsw (off := 27) (tgt := 28) h dX11_fault_1 (by decide) (by first | decide | exact lk01 ha.1 ha.2) (by decide) ?_
    refine g_aload_n h dX11_fault_28 0 rfl ?_
    refine g_geti h dX11_fault_29 gX11_13 sc_12 rfl ?_
    refine g_top (y := fk) (by first | exact ht14003_σ | assumption) ?_
    exact g_iret h hQ dX11_fault_32 (congrArg (fun z => some (Value.int z)) (show (if a = nI 0 then fk else if a = nI 1 then fp else -1) = fk by first | (rw [if_pos ha]; done) | (rw [if_neg (by rw [ha]; decide), if_pos ha]; done) | (rw [if_neg ha.1, if_neg ha.2]; done) | fail)) rfl
  ·
    rw [ha]
    show G X w 2 0 [(0, .ref (w.1 12)), (1, .int (nI 1))] [] σ
    refine g_iload_n h dX11_fault_0 1 rfl ?_
    refine g_lsw (off := 32) (tgt := 33) h dX11_fault_1 (by decide) (by first | decide | exact lk01 ha.1 ha.2) (by decide) ?_
    refine g_aload_n h dX11_fault_33 0 rfl ?_
    refine g_geti h dX11_fault_34 gX11_17 sc_12 rfl ?_
    refine g_top (y := fp) (by first | exact ht14004_σ | assumption) ?_
    exact g_iret h hQ dX11_fault_37 (congrArg (fun z => some (Value.int z)) (show (if a = nI 0 then fk else if a = nI 1 then fp else -1) = fp by first | (rw [if_pos ha]; done) | (rw [if_neg (by rw [ha]; decide), if_pos ha]; done) | (rw [if_neg ha.1, if_neg ha.2]; done) | fail)) rfl
  ·
    show G X w 2 0 [(0, .ref (w.1 12)), (1, .int a)] [] σ
    refine g_iload_n h dX11_fault_0 1 rfl ?_
    refine g_lsw (off := 37) (tgt := 38) h dX11_fault_1 (by decide) (by first | decide | exact lk01 ha.1 ha.2) (by decide) ?_
    refine g_iconstv h dX11_fault_38 (v := (-1)) (by decide) ?_
    exact g_iret h hQ dX11_fault_39 (congrArg (fun z => some (Value.int z)) (show (if a = nI 0 then fk else if a = nI 1 then fp else -1) = (-1) by first | (rw [if_pos ha]; done) | (rw [if_neg (by rw [ha]; decide), if_pos ha]; done) | (rw [if_neg ha.1, if_neg ha.2]; done) | fail)) rfl
