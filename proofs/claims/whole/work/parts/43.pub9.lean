/-! till all is told, on paper: settles, mends -/
theorem r_save {l : Launch} {w : Wd} (hW : Wi w) {σ : Mem} (nt : Nat) (g : Nat → Nat → Int32) (μ : Nat → Int32) (hv : vw 0 σ = μ) (hL : LR 0 σ nt g) : MC l w qX12_copies 0 [.ref (w.1 0), .int (nI 0), .int (nI 528)] σ none (fun σ' => (vw 528 σ' = μ) ∧ (LR 528 σ' nt g) ∧ (∀ a, (a < 528 ∨ 1056 ≤ a) → σ' a = σ a)) := by
  refine MC.imp (r_copies hW 0 528 (by decide) (by decide) (by decide)) ?_
  intro σ' e
  exact ⟨vw_cp0 hv e, lr_cp0 hL e, fun a ha => by rw [e]; exact cp_out (by omega)⟩
theorem r_rest {l : Launch} {w : Wd} (hW : Wi w) {σ : Mem} (nt : Nat) (g : Nat → Nat → Int32) (μ : Nat → Int32) (hv : vw 528 σ = μ) (hL : LR 528 σ nt g) : MC l w qX12_copies 0 [.ref (w.1 0), .int (nI 528), .int (nI 0)] σ none (fun σ' => (vw 0 σ' = μ) ∧ (LR 0 σ' nt g) ∧ (∀ a, (528 ≤ a) → σ' a = σ a)) := by
  refine MC.imp (r_copies hW 528 0 (by decide) (by decide) (by decide)) ?_
  intro σ' e
  exact ⟨vw_cp0 hv e, lr_cp0 hL e, fun a ha => by rw [e]; exact cp_out (by omega)⟩
def stS (μ : Nat → Int32) (g : Nat → Nat → Int32) : Nat := match stO μ g with
  | none => 8
  | some _ => 0
theorem stS_n {μ : Nat → Int32} {g : Nat → Nat → Int32} (h : stO μ g = none) : stS μ g = 8 := by
  unfold stS
  rw [h]
theorem stS_s {μ : Nat → Int32} {g : Nat → Nat → Int32} {b : Nat} (h : stO μ g = some b) : stS μ g = 0 := by
  unfold stS
  rw [h]
theorem stO_lt {μ : Nat → Int32} {g : Nat → Nat → Int32} {b : Nat} (h : stO μ g = some b) : b < 121 := (fs_lt (show fs _ 121 = some b from h)).1
theorem stS_lt {μ : Nat → Int32} {g : Nat → Nat → Int32} : stS μ g < 100 := by
  unfold stS
  split <;> decide
def jz (μ : Nat → Int32) : Prop := ∀ a, 11 ≤ a → a < 16 → μ a = 0
theorem hl1_z {ls i j a : Nat} {μh : Nat → Int32} {s : TT} (ha : a < 16) : (hl1 ls μh i j s).1 a = s.1 a := by
  unfold hl1
  split
  · unfold hrS
    dsimp only
    repeat (first | rw [if_neg (by omega)] | rfl)
  · rfl
theorem hlJ_z {ls i a : Nat} {μh : Nat → Int32} {s : TT} (ha : a < 16) : ∀ n, (hlJ ls μh i s n).1 a = s.1 a
  | 0 => rfl
  | n + 1 => by rw [hlJ, hl1_z ha, hlJ_z ha n]
theorem hlI_z {ls N a : Nat} {μh : Nat → Int32} {s : TT} (ha : a < 16) : ∀ n, (hlI ls μh N s n).1 a = s.1 a
  | 0 => rfl
  | n + 1 => by rw [hlI, hlJ_z ha N, hlI_z ha n]
theorem tkF_z {ls a : Nat} {s : TT} (h : MI s.1) (h1 : 11 ≤ a) (h2 : a < 16) : (tkF ls s).1 a = s.1 a := by
  have h8 := mi_8 h
  obtain ⟨c1, c2⟩ := tkC_all (ls := ls) h
  have eC : (tkC ls s).1 a = s.1 a := by
    unfold tkC
    dsimp only
    rw [rl_fix (by omega) h8]
    unfold tkA
    rw [hlI_z h2]
    show upd s.1 2 (s.1 2 + nI 1) a = s.1 a
    exact upd_ne (by omega)
  have eD : (tkD ls s).1 a = s.1 a := by
    unfold tkD
    split
    · rw [(ntN_all (ls := ls) c1 (nN s.1) (by omega)).2.2 a (by omega) (by omega) (by omega)]
      exact eC
    · exact eC
  unfold tkF esP
  dsimp only
  rw [if_neg (by omega)]
  exact eD
theorem tkN_z {a : Nat} {s : TT} (h : MI s.1) (h1 : 11 ≤ a) (h2 : a < 16) : ∀ n, (tkN s n).1 a = s.1 a
  | 0 => rfl
  | n + 1 => by rw [tkN, tkF_z (tkN_all h n).1 h1 h2, tkN_z h h1 h2 n]
def mdP (μ : Nat → Int32) (i : Nat) : Nat → Int32 := upd μ 1 (wth (μ 1) i (!tb (μ 1) i))
theorem md_mi {μ : Nat → Int32} {i : Nat} (h : MI μ) (hi : i < nN μ) : MI (mdP μ i) := by
  have h8 := mi_8 h
  refine mi_upd h (by decide) (by decide) ?_
  refine ⟨fun q => absurd rfl q, fun _ _ => by omega, fun _ _ => by omega, fun _ _ => by omega, fun _ => sb_wth (ms_on h) hi (by omega), fun _ _ => by omega, fun _ _ => by omega, fun _ _ => by omega⟩

set_option maxRecDepth 100000 in
set_option maxHeartbeats 4000000 in
theorem q_settles {l : Launch} {w : Wd} (hW : Wi w) {σ : Mem} (nt : Nat) (g : Nat → Nat → Int32) (μ : Nat → Int32) (hv : vw 0 σ = μ) (hI : MI μ) (h7 : μ 7 = nI nt) (hnt : nt + 1000 < 2 ^ 30) (hcLR_σ : LR 0 σ nt g) : MC l w qX12_settles 8 [.ref (w.1 0)] σ (some (.int (an (stS μ g) (oI (stO μ g))))) (fun σ' => (vw 0 σ' = μ) ∧ (σ' 4000 = (nI (stS μ g))) ∧ (LR 0 σ' nt g) ∧ (∀ a, (1056 ≤ a ∧ (a < 4900 ∨ 6000 ≤ a) ∧ a ≠ 4000) → σ' a = σ a)) := by
  refine MC.of hW (by decide +kernel) (Nat.le_of_ble_eq_true rfl) (fun X h hQ hnm => ?_)
  have h : Fx X w cX12_settles 2 RX12 8 := h
  have hQ : Qx X w (some .int) (some (.int (an (stS μ g) (oI (stO μ g))))) (fun σ' => (vw 0 σ' = μ) ∧ (σ' 4000 = (nI (stS μ g))) ∧ (LR 0 σ' nt g) ∧ (∀ a, (1056 ≤ a ∧ (a < 4900 ∨ 6000 ≤ a) ∧ a ≠ 4000) → σ' a = σ a)) := hQ
  have hN8 := mi_8 hI
  have hcFR_σ : ∀ a, (1056 ≤ a ∧ (a < 4900 ∨ 6000 ≤ a) ∧ a ≠ 4000) → σ a = σ a := fun _ _ => rfl
  show G X w 2 0 [(0, .ref (w.1 0))] [] σ
  refine g_aload_n h dX12_settles_0 0 rfl ?_
  refine g_iconst h dX12_settles_1 (by decide) ?_
  refine g_sipush h dX12_settles_2 (by decide) ?_
  refine g_cvv (rest := []) h (r_save hW nt g μ (by first | exact hv | assumption | fail) (by exact hcLR_σ)) lX12_copies mX12_275 (Nat.lt_of_lt_of_le (by decide) (Nat.le_refl _)) (by decide) sc_0 rfl rfl rfl rfl dX12_settles_5 (fun σ_1 eσ_1 => ?_)
  obtain ⟨eσ_1_a, eσ_1_b, eσ_1_c⟩ := eσ_1
  have eσ_1_a : vw 528 σ_1 = μ := eσ_1_a
  have eσ_1_b : LR 528 σ_1 nt g := eσ_1_b
  have eσ_1_c : ∀ a, (a < 528 ∨ 1056 ≤ a) → σ_1 a = σ a := eσ_1_c
  have hcLR_σ_1 : LR 0 σ_1 nt g := by exact LR.fr hcLR_σ (fun a ha => eσ_1_c a (by first | omega | (simp only [vb] at *; omega)))
  have hcFR_σ_1 : ∀ a, (1056 ≤ a ∧ (a < 4900 ∨ 6000 ≤ a) ∧ a ≠ 4000) → σ_1 a = σ a := by intro a ha; exact Eq.trans (b := σ a) (eσ_1_c a (by first | omega | (simp only [vb] at *; omega))) (hcFR_σ a ha)
  have hcVS_σ_1 : vw 528 σ_1 = μ := eσ_1_a
  have hcLS_σ_1 : LR 528 σ_1 nt g := eσ_1_b
  have hvσ_1 : vw 0 σ_1 = μ := by rw [vw_fr (σ := σ) (fun j _ _ => eσ_1_c _ (by first | omega | (simp only [vb] at *; omega)))]; first | exact hv | assumption
  refine g_aload_n h dX12_settles_8 0 rfl ?_
  refine g_cvi (rest := []) h (r_settlesNow hW nt g μ (by first | exact hvσ_1 | assumption | fail) (by assumption) (by omega) (by omega) (by first | exact hcLR_σ_1 | assumption | fail)) lX12_settlesNow mX12_339 (Nat.lt_of_lt_of_le (by decide) (Nat.le_refl _)) (by decide) sc_0 rfl rfl rfl rfl dX12_settles_9 (fun σ_2 eσ_2 => ?_)
  obtain ⟨eσ_2_a, eσ_2_b, eσ_2_c⟩ := eσ_2
  have eσ_2_a : vw 0 σ_2 = (tkN (μ, 0, nI 0, g) (stK μ g)).1 := eσ_2_a
  have eσ_2_b : LR 0 σ_2 (nA (tkN (μ, 0, nI 0, g) (stK μ g)).1 7) (tkN (μ, 0, nI 0, g) (stK μ g)).2.2.2 := eσ_2_b
  have eσ_2_c : ∀ a, (528 ≤ a ∧ (a < 4900 ∨ 6000 ≤ a)) → σ_2 a = σ_1 a := eσ_2_c
  have hcLR_σ_2 : LR 0 σ_2 (nA (tkN (μ, 0, nI 0, g) (stK μ g)).1 7) (tkN (μ, 0, nI 0, g) (stK μ g)).2.2.2 := eσ_2_b
  have hcFR_σ_2 : ∀ a, (1056 ≤ a ∧ (a < 4900 ∨ 6000 ≤ a) ∧ a ≠ 4000) → σ_2 a = σ a := by intro a ha; exact Eq.trans (b := σ_1 a) (eσ_2_c a (by first | omega | (simp only [vb] at *; omega))) (hcFR_σ_1 a ha)
  have hcVS_σ_2 : vw 528 σ_2 = μ := by rw [vw_fr (fun j _ _ => eσ_2_c _ (by omega))]; exact hcVS_σ_1
  have hcLS_σ_2 : LR 528 σ_2 nt g := by exact LR.fr hcLS_σ_1 (fun a ha => eσ_2_c a (by first | omega | (simp only [vb] at *; omega)))
  obtain ⟨μ_3, eμ_3⟩ : ∃ μ_3 : Nat → Int32, μ_3 = (tkN (μ, 0, nI 0, g) (stK μ g)).1 := ⟨_, rfl⟩
  have hvσ_2 : vw 0 σ_2 = μ_3 := by rw [eμ_3]; exact eσ_2_a
  refine g_istore_n (L' := [(0, .ref (w.1 0)), (1, .int (oI (stO μ g)))]) h dX12_settles_12 rfl (by decide) rfl ?_
  refine g_aload_n h dX12_settles_13 0 rfl ?_
  refine g_sipush h dX12_settles_14 (by decide) ?_
  refine g_iconst h dX12_settles_17 (by decide) ?_
  refine g_cvv (rest := []) h (r_rest hW nt g μ (by exact hcVS_σ_2) (by exact hcLS_σ_2)) lX12_copies mX12_275 (Nat.lt_of_lt_of_le (by decide) (Nat.le_refl _)) (by decide) sc_0 rfl rfl rfl rfl dX12_settles_18 (fun σ_4 eσ_4 => ?_)
  obtain ⟨eσ_4_a, eσ_4_b, eσ_4_c⟩ := eσ_4
  have eσ_4_a : vw 0 σ_4 = μ := eσ_4_a
  have eσ_4_b : LR 0 σ_4 nt g := eσ_4_b
  have eσ_4_c : ∀ a, (528 ≤ a) → σ_4 a = σ_2 a := eσ_4_c
  have hcFR_σ_4 : ∀ a, (1056 ≤ a ∧ (a < 4900 ∨ 6000 ≤ a) ∧ a ≠ 4000) → σ_4 a = σ a := by intro a ha; exact Eq.trans (b := σ_2 a) (eσ_4_c a (by first | omega | (simp only [vb] at *; omega))) (hcFR_σ_2 a ha)
  have hcVS_σ_4 : vw 528 σ_4 = μ := by rw [vw_fr (fun j _ _ => eσ_4_c _ (by omega))]; exact hcVS_σ_2
  have hcLS_σ_4 : LR 528 σ_4 nt g := by exact LR.fr hcLS_σ_2 (fun a ha => eσ_4_c a (by first | omega | (simp only [vb] at *; omega)))
  have hcLR_σ_4 : LR 0 σ_4 nt g := eσ_4_b
  obtain ⟨μ_5, eμ_5⟩ : ∃ μ_5 : Nat → Int32, μ_5 = μ := ⟨_, rfl⟩
  have hvσ_4 : vw 0 σ_4 = μ_5 := by rw [eμ_5]; exact eσ_4_a
  rcases oI_or (stO μ g) with ⟨hn, he⟩ | ⟨b, hn, he⟩
  ·
    rw [he]
    show G X w 2 21 [(0, .ref (w.1 0)), (1, .int (-1))] [] σ_4
    refine g_iload_n h dX12_settles_21 1 rfl ?_
    refine g_iconstv h dX12_settles_22 (v := (-1)) (by decide) ?_
    refine g_icmp_ne h dX12_settles_23 (fun c23 => (by exfalso; first | exact c23 rfl | exact nI_ne_m1 (by omega) c23 | exact c23 (nI_ne_m1 (by omega)) | exact nI_le_m1 (by omega) c23 | exact c23 (m1_lt (by omega)) | exact absurd c23 (by decide))) (fun c23 => ?_)
    refine g_aload_n h dX12_settles_26 0 rfl ?_
    refine g_bipush h dX12_settles_27 (by decide) ?_
    refine g_cvi (rest := []) h (r_refuse hW (nI 8) ) lX12_refuse mX12_272 (Nat.lt_of_lt_of_le (by decide) (Nat.le_refl _)) (by decide) sc_0 rfl rfl rfl rfl dX12_settles_29 (fun σ_6 eσ_6 => ?_)
    have eσ_6_a : σ_6 = upd σ_4 4000 (nI 8) := eσ_6
    have ht4000_σ_6 : σ_6 4000 = (nI 8) := by rw [eσ_6_a]; exact upd_eq
    have hcFR_σ_6 : ∀ a, (1056 ≤ a ∧ (a < 4900 ∨ 6000 ≤ a) ∧ a ≠ 4000) → σ_6 a = σ a := by intro a ha; exact Eq.trans (b := σ_4 a) (by rw [eσ_6_a, upd_ne (by first | omega | (simp only [vb] at *; omega))]) (hcFR_σ_4 a ha)
    have hcVS_σ_6 : vw 528 σ_6 = μ := by rw [eσ_6_a, vw_out (by omega)]; exact hcVS_σ_4
    have hcLS_σ_6 : LR 528 σ_6 nt g := by rw [eσ_6_a]; exact LR.fr hcLS_σ_4 (fun a ha => upd_ne (by first | omega | (simp only [vb] at *; omega)))
    have hcLR_σ_6 : LR 0 σ_6 nt g := by rw [eσ_6_a]; exact LR.fr hcLR_σ_4 (fun a ha => upd_ne (by first | omega | (simp only [vb] at *; omega)))
    have hvσ_6 : vw 0 σ_6 = μ_5 := by rw [eσ_6_a, vw_out (by omega)]; first | exact hvσ_4 | assumption
    refine g_goto h dX12_settles_32 ?_
    exact g_iret h hQ dX12_settles_40 (congrArg (fun z => some (Value.int z)) (show (an (stS μ g) (oI (stO μ g))) = (-1) by first | exact an_yes (by first | exact stS_n hn | exact stS_s hn | fail) (by exact he) | exact an_no (k := 8) (by first | exact stS_n hn | exact stS_s hn | fail) (by decide) | fail)) (by exact ⟨(by rw [hvσ_6]; simp only [eμ_5, eμ_3]), (by exact tk_eq (k := 8) (by first | exact stS_n hn | exact stS_s hn | fail) ht4000_σ_6), (by first | exact hcLR_σ_6 | assumption | fail), (by exact hcFR_σ_6)⟩)
  ·
    rw [he]
    have hb9 := stO_lt hn
    show G X w 2 21 [(0, .ref (w.1 0)), (1, .int (nI b))] [] σ_4
    refine g_iload_n h dX12_settles_21 1 rfl ?_
    refine g_iconstv h dX12_settles_22 (v := (-1)) (by decide) ?_
    refine g_icmp_ne h dX12_settles_23 (fun c23 => ?_) (fun c23 => (by exfalso; first | exact c23 rfl | exact nI_ne_m1 (by omega) c23 | exact c23 (nI_ne_m1 (by omega)) | exact nI_le_m1 (by omega) c23 | exact c23 (m1_lt (by omega)) | exact absurd c23 (by decide)))
    refine g_aload_n h dX12_settles_35 0 rfl ?_
    refine g_iload_n h dX12_settles_36 1 rfl ?_
    refine g_cvi (rest := []) h (r_gives hW (nI b) ) lX12_gives mX12_281 (Nat.lt_of_lt_of_le (by decide) (Nat.le_refl _)) (by decide) sc_0 rfl rfl rfl rfl dX12_settles_37 (fun σ_7 eσ_7 => ?_)
    have eσ_7_a : σ_7 = upd σ_4 4000 (nI 0) := eσ_7
    have ht4000_σ_7 : σ_7 4000 = (nI 0) := by rw [eσ_7_a]; exact upd_eq
    have hcFR_σ_7 : ∀ a, (1056 ≤ a ∧ (a < 4900 ∨ 6000 ≤ a) ∧ a ≠ 4000) → σ_7 a = σ a := by intro a ha; exact Eq.trans (b := σ_4 a) (by rw [eσ_7_a, upd_ne (by first | omega | (simp only [vb] at *; omega))]) (hcFR_σ_4 a ha)
    have hcVS_σ_7 : vw 528 σ_7 = μ := by rw [eσ_7_a, vw_out (by omega)]; exact hcVS_σ_4
    have hcLS_σ_7 : LR 528 σ_7 nt g := by rw [eσ_7_a]; exact LR.fr hcLS_σ_4 (fun a ha => upd_ne (by first | omega | (simp only [vb] at *; omega)))
    have hcLR_σ_7 : LR 0 σ_7 nt g := by rw [eσ_7_a]; exact LR.fr hcLR_σ_4 (fun a ha => upd_ne (by first | omega | (simp only [vb] at *; omega)))
    have hvσ_7 : vw 0 σ_7 = μ_5 := by rw [eσ_7_a, vw_out (by omega)]; first | exact hvσ_4 | assumption
    exact g_iret h hQ dX12_settles_40 (congrArg (fun z => some (Value.int z)) (show (an (stS μ g) (oI (stO μ g))) = (nI b) by first | exact an_yes (by first | exact stS_n hn | exact stS_s hn | fail) (by exact he) | exact an_no (k := 8) (by first | exact stS_n hn | exact stS_s hn | fail) (by decide) | fail)) (by exact ⟨(by rw [hvσ_7]; simp only [eμ_5, eμ_3]), (by exact tk_eq (k := 0) (by first | exact stS_n hn | exact stS_s hn | fail) ht4000_σ_7), (by first | exact hcLR_σ_7 | assumption | fail), (by exact hcFR_σ_7)⟩)

set_option maxRecDepth 100000 in
set_option maxHeartbeats 4000000 in
theorem p_settles {l : Launch} {w : Wd} (hW : Wi w) {σ : Mem} (nt : Nat) (g : Nat → Nat → Int32) (μ μ1 : Nat → Int32) (hv : vw (vb 0) σ = μ) (hI : MI μ) (hw : vw (vb 1) σ = μ1) (hjz : jz μ) (hjz1 : jz μ1) (h7 : μ 7 = nI nt) (hnt : nt + 1000 < 2 ^ 30) (hcLD_σ : LC (vb 0) σ nt g) : MC l w qX11_settles 7 [.ref (w.1 12)] σ (some (.int (an (stS μ g) (oI (stO μ g))))) (fun σ' => (σ' 14000 = (nI (stS μ g))) ∧ (∃ ν, vw (vb 1) σ' = ν ∧ jz ν) ∧ (∀ a, ((a < vb 1 ∨ vb 1 + 528 ≤ a) ∧ a < 14900 ∧ a ≠ 14000) → σ' a = σ a)) := by
  refine MC.of hW (by decide +kernel) (Nat.le_of_ble_eq_true rfl) (fun X h hQ hnm => ?_)
  have h : Fx X w cX11_settles 2 RX11 7 := h
  have hQ : Qx X w (some .int) (some (.int (an (stS μ g) (oI (stO μ g))))) (fun σ' => (σ' 14000 = (nI (stS μ g))) ∧ (∃ ν, vw (vb 1) σ' = ν ∧ jz ν) ∧ (∀ a, ((a < vb 1 ∨ vb 1 + 528 ≤ a) ∧ a < 14900 ∧ a ≠ 14000) → σ' a = σ a)) := hQ
  have hN8 := mi_8 hI
  have hvb0 : vb 0 = 10000 := rfl
  have hvb1 : vb 1 = 10528 := rfl
  have hcFR_σ : ∀ a, ((a < vb 1 ∨ vb 1 + 528 ≤ a) ∧ a < 14900 ∧ a ≠ 14000) → σ a = σ a := fun _ _ => rfl
  show G X w 2 0 [(0, .ref (w.1 12))] [] σ
  refine g_aload_n h dX11_settles_0 0 rfl ?_
  refine g_getr h dX11_settles_1 gX11_27 sc_12 rfl ?_
  refine g_aload_n h dX11_settles_4 0 rfl ?_
  refine g_getr h dX11_settles_5 gX11_23 sc_12 rfl ?_
  refine g_cvv (rest := []) h (c_become hW nt g 1 0 μ1 μ (by first | omega | decide | fail) (by first | omega | decide | fail) (by first | omega | decide | fail) (by first | exact hv | assumption | fail) (by first | exact w | assumption | fail) (by intro a h1 h2; rw [hjz a h1 h2]; exact hjz1 a h1 h2) (by first | exact hcLD_σ | assumption | fail)) lX5_become mX11_116 (Nat.lt_of_lt_of_le (by decide) (Nat.le_refl _)) (by decide) (sM_0 (m := 1) (by decide)) rfl rfl rfl rfl dX11_settles_8 (fun σ_1 eσ_1 => ?_)
  obtain ⟨eσ_1_a, eσ_1_b, eσ_1_c, eσ_1_d⟩ := eσ_1
  have eσ_1_a : vw (vb 1) σ_1 = μ := eσ_1_a
  have eσ_1_b : LC (vb 0) σ_1 nt g := eσ_1_b
  have eσ_1_c : LC (vb 1) σ_1 nt g := eσ_1_c
  have eσ_1_d : ∀ a, (a < vb 1 ∨ vb 1 + 528 ≤ a) → σ_1 a = σ a := eσ_1_d
  have hcLD_σ_1 : LC (vb 0) σ_1 nt g := eσ_1_b
  have hcFR_σ_1 : ∀ a, ((a < vb 1 ∨ vb 1 + 528 ≤ a) ∧ a < 14900 ∧ a ≠ 14000) → σ_1 a = σ a := by intro a ha; exact Eq.trans (b := σ a) (eσ_1_d a (by first | omega | (simp only [vb] at *; omega))) (hcFR_σ a ha)
  have hcLC_σ_1 : LC (vb 1) σ_1 nt g := eσ_1_c
  have hvσ_1 : vw (vb 0) σ_1 = μ := by rw [vw_fr (σ := σ) (fun j _ _ => eσ_1_d _ (by first | omega | (simp only [vb] at *; omega)))]; first | exact hv | assumption
  obtain ⟨μk, eμk⟩ : ∃ μk : Nat → Int32, μk = μ := ⟨_, rfl⟩
  have hwσ_1 : vw (vb 1) σ_1 = μk := by rw [eμk]; exact eσ_1_a
  refine g_aload_n h dX11_settles_11 0 rfl ?_
  refine g_cvi (rest := []) h (c_ticksTillTold hW nt g μk (by assumption) (by rw [eμk]; exact hI) (by rw [eμk]; exact h7) (by omega) (by first | exact hcLC_σ_1 | assumption | fail)) lX11_ticksTillTold mX11_316 (Nat.lt_of_lt_of_le (by decide) (Nat.le_refl _)) (by decide) sc_12 rfl rfl rfl rfl dX11_settles_12 (fun σ_2 eσ_2 => ?_)
  obtain ⟨eσ_2_a, eσ_2_b⟩ := eσ_2
  have eσ_2_a : vw (vb 1) σ_2 = (tkN (μk, 0, nI 0, g) (stC μk g)).1 := eσ_2_a
  have eσ_2_b : ∀ a, ((a < vb 1 ∨ vb 1 + 528 ≤ a) ∧ a < 14900) → σ_2 a = σ_1 a := eσ_2_b
  have hcLD_σ_2 : LC (vb 0) σ_2 nt g := by exact LC.fr hcLD_σ_1 (fun a ha hb => eσ_2_b a (by first | omega | (simp only [vb] at *; omega)))
  have hcFR_σ_2 : ∀ a, ((a < vb 1 ∨ vb 1 + 528 ≤ a) ∧ a < 14900 ∧ a ≠ 14000) → σ_2 a = σ a := by intro a ha; exact Eq.trans (b := σ_1 a) (eσ_2_b a (by first | omega | (simp only [vb] at *; omega))) (hcFR_σ_1 a ha)
  have hvσ_2 : vw (vb 0) σ_2 = μ := by rw [vw_fr (σ := σ_1) (fun j _ _ => eσ_2_b _ (by first | omega | (simp only [vb] at *; omega)))]; first | exact hvσ_1 | assumption
  obtain ⟨μe, eμe⟩ : ∃ μe : Nat → Int32, μe = (tkN (μk, 0, nI 0, g) (stC μk g)).1 := ⟨_, rfl⟩
  have hwσ_2 : vw (vb 1) σ_2 = μe := by rw [eμe]; exact eσ_2_a
  refine g_top (y := (oI (stO μ g))) (by rw [eμk]) ?_
  refine g_istore_n (L' := [(0, .ref (w.1 12)), (1, .int (oI (stO μ g)))]) h dX11_settles_15 rfl (by decide) rfl ?_
  rcases oI_or (stO μ g) with ⟨hn, he⟩ | ⟨b, hn, he⟩
  ·
    rw [he]
    show G X w 2 16 [(0, .ref (w.1 12)), (1, .int (-1))] [] σ_2
    refine g_aload_n h dX11_settles_16 0 rfl ?_
    refine g_iload_n h dX11_settles_17 1 rfl ?_
    refine g_iconstv h dX11_settles_18 (v := (-1)) (by decide) ?_
    refine g_icmp_ne h dX11_settles_19 (fun c19 => (by exfalso; first | exact c19 rfl | exact nI_ne_m1 (by omega) c19 | exact c19 (nI_ne_m1 (by omega)) | exact nI_le_m1 (by omega) c19 | exact c19 (m1_lt (by omega)) | exact absurd c19 (by decide))) (fun c19 => ?_)
    refine g_bipush h dX11_settles_22 (by decide) ?_
    refine g_goto h dX11_settles_24 ?_
    refine g_cvi (rest := []) h (c_fails hW 8 (by repeat (first | omega | exact rg_lt | exact ns_lt | exact ps_lt | exact gst_lt | exact ofS_lt | exact if_lt (by decide) (by decide) | apply fo_lt))) lX11_fails mX11_106 (Nat.lt_of_lt_of_le (by decide) (Nat.le_refl _)) (by decide) sc_12 rfl rfl rfl rfl dX11_settles_28 (fun σ_3 eσ_3 => ?_)
    obtain ⟨eσ_3_a, eσ_3_b⟩ := eσ_3
    have eσ_3_a : σ_3 14000 = (nI 8) := eσ_3_a
    have eσ_3_b : ∀ a, (a ≠ 14000) → σ_3 a = σ_2 a := eσ_3_b
    have ht14000_σ_3 : σ_3 14000 = (nI 8) := eσ_3_a
    have hcLD_σ_3 : LC (vb 0) σ_3 nt g := by exact LC.fr hcLD_σ_2 (fun a ha hb => eσ_3_b a (by first | omega | (simp only [vb] at *; omega)))
    have hcFR_σ_3 : ∀ a, ((a < vb 1 ∨ vb 1 + 528 ≤ a) ∧ a < 14900 ∧ a ≠ 14000) → σ_3 a = σ a := by intro a ha; exact Eq.trans (b := σ_2 a) (eσ_3_b a (by first | omega | (simp only [vb] at *; omega))) (hcFR_σ_2 a ha)
    have hvσ_3 : vw (vb 0) σ_3 = μ := by rw [vw_fr (σ := σ_2) (fun j _ _ => eσ_3_b _ (by first | omega | (simp only [vb] at *; omega)))]; first | exact hvσ_2 | assumption
    have hwσ_3 : vw (vb 1) σ_3 = μe := by rw [vw_fr (σ := σ_2) (fun j _ _ => eσ_3_b _ (by first | omega | (simp only [vb] at *; omega)))]; first | exact hwσ_2 | assumption
    refine g_top (y := nI 1) rfl ?_
    refine g_ifN_eq h dX11_settles_31 (by decide) (fun c31 => absurd c31 (by decide)) (fun c31 => ?_)
    refine g_iconstv h dX11_settles_34 (v := (-1)) (by decide) ?_
    refine g_goto h dX11_settles_35 ?_
    exact g_iret h hQ dX11_settles_39 (congrArg (fun z => some (Value.int z)) (show (an (stS μ g) (oI (stO μ g))) = (-1) by first | exact an_yes (by first | exact stS_n hn | exact stS_s hn | fail) (by exact he) | exact an_no (k := 8) (by first | exact stS_n hn | exact stS_s hn | fail) (by decide) | fail)) (by exact ⟨(by exact tk_eq (k := 8) (by first | exact stS_n hn | exact stS_s hn | fail) ht14000_σ_3), (by exact ⟨μe, by assumption, fun a h1 h2 => by rw [eμe, tkN_z (by rw [eμk]; exact hI) h1 h2]; show μk a = 0; rw [eμk]; exact hjz a h1 h2⟩), (by exact hcFR_σ_3)⟩)
  ·
    rw [he]
    have hb9 := stO_lt hn
    show G X w 2 16 [(0, .ref (w.1 12)), (1, .int (nI b))] [] σ_2
    refine g_aload_n h dX11_settles_16 0 rfl ?_
    refine g_iload_n h dX11_settles_17 1 rfl ?_
    refine g_iconstv h dX11_settles_18 (v := (-1)) (by decide) ?_
    refine g_icmp_ne h dX11_settles_19 (fun c19 => ?_) (fun c19 => (by exfalso; first | exact c19 rfl | exact nI_ne_m1 (by omega) c19 | exact c19 (nI_ne_m1 (by omega)) | exact nI_le_m1 (by omega) c19 | exact c19 (m1_lt (by omega)) | exact absurd c19 (by decide)))
    refine g_iconst h dX11_settles_27 (by decide) ?_
    refine g_cvi (rest := []) h (c_fails hW 0 (by repeat (first | omega | exact rg_lt | exact ns_lt | exact ps_lt | exact gst_lt | exact ofS_lt | exact if_lt (by decide) (by decide) | apply fo_lt))) lX11_fails mX11_106 (Nat.lt_of_lt_of_le (by decide) (Nat.le_refl _)) (by decide) sc_12 rfl rfl rfl rfl dX11_settles_28 (fun σ_4 eσ_4 => ?_)
    obtain ⟨eσ_4_a, eσ_4_b⟩ := eσ_4
    have eσ_4_a : σ_4 14000 = (nI 0) := eσ_4_a
    have eσ_4_b : ∀ a, (a ≠ 14000) → σ_4 a = σ_2 a := eσ_4_b
    have ht14000_σ_4 : σ_4 14000 = (nI 0) := eσ_4_a
    have hcLD_σ_4 : LC (vb 0) σ_4 nt g := by exact LC.fr hcLD_σ_2 (fun a ha hb => eσ_4_b a (by first | omega | (simp only [vb] at *; omega)))
    have hcFR_σ_4 : ∀ a, ((a < vb 1 ∨ vb 1 + 528 ≤ a) ∧ a < 14900 ∧ a ≠ 14000) → σ_4 a = σ a := by intro a ha; exact Eq.trans (b := σ_2 a) (eσ_4_b a (by first | omega | (simp only [vb] at *; omega))) (hcFR_σ_2 a ha)
    have hvσ_4 : vw (vb 0) σ_4 = μ := by rw [vw_fr (σ := σ_2) (fun j _ _ => eσ_4_b _ (by first | omega | (simp only [vb] at *; omega)))]; first | exact hvσ_2 | assumption
    have hwσ_4 : vw (vb 1) σ_4 = μe := by rw [vw_fr (σ := σ_2) (fun j _ _ => eσ_4_b _ (by first | omega | (simp only [vb] at *; omega)))]; first | exact hwσ_2 | assumption
    refine g_top (y := nI 0) rfl ?_
    refine g_ifN_eq h dX11_settles_31 (by decide) (fun c31 => ?_) (fun c31 => absurd c31 (by decide))
    refine g_iload_n h dX11_settles_38 1 rfl ?_
    exact g_iret h hQ dX11_settles_39 (congrArg (fun z => some (Value.int z)) (show (an (stS μ g) (oI (stO μ g))) = (nI b) by first | exact an_yes (by first | exact stS_n hn | exact stS_s hn | fail) (by exact he) | exact an_no (k := 8) (by first | exact stS_n hn | exact stS_s hn | fail) (by decide) | fail)) (by exact ⟨(by exact tk_eq (k := 0) (by first | exact stS_n hn | exact stS_s hn | fail) ht14000_σ_4), (by exact ⟨μe, by assumption, fun a h1 h2 => by rw [eμe, tkN_z (by rw [eμk]; exact hI) h1 h2]; show μk a = 0; rw [eμk]; exact hjz a h1 h2⟩), (by exact hcFR_σ_4)⟩)

set_option maxRecDepth 100000 in
set_option maxHeartbeats 4000000 in
theorem q_mends {l : Launch} {w : Wd} (hW : Wi w) {σ : Mem} (i : Int32) (nt : Nat) (g : Nat → Nat → Int32) (μ : Nat → Int32) (hv : vw 0 σ = μ) (hI : MI μ) (h7 : μ 7 = nI nt) (hnt : nt + 1000 < 2 ^ 30) (hcLR_σ : LR 0 σ nt g) : MC l w qX12_mends 8 [.ref (w.1 0), .int i] σ (some (.int (an (fo (ns μ i) (stS (mdP μ (toN i)) g)) (oI (stO (mdP μ (toN i)) g))))) (fun σ' => (vw 0 σ' = μ) ∧ (σ' 4000 = (nI (fo (ns μ i) (stS (mdP μ (toN i)) g)))) ∧ (LR 0 σ' nt g) ∧ (∀ a, (1056 ≤ a ∧ (a < 4900 ∨ 6000 ≤ a) ∧ a ≠ 4000) → σ' a = σ a)) := by
  refine MC.of hW (by decide +kernel) (Nat.le_of_ble_eq_true rfl) (fun X h hQ hnm => ?_)
  have h : Fx X w cX12_mends 3 RX12 8 := h
  have hQ : Qx X w (some .int) (some (.int (an (fo (ns μ i) (stS (mdP μ (toN i)) g)) (oI (stO (mdP μ (toN i)) g))))) (fun σ' => (vw 0 σ' = μ) ∧ (σ' 4000 = (nI (fo (ns μ i) (stS (mdP μ (toN i)) g)))) ∧ (LR 0 σ' nt g) ∧ (∀ a, (1056 ≤ a ∧ (a < 4900 ∨ 6000 ≤ a) ∧ a ≠ 4000) → σ' a = σ a)) := hQ
  have hN8 := mi_8 hI
  have hcFR_σ : ∀ a, (1056 ≤ a ∧ (a < 4900 ∨ 6000 ≤ a) ∧ a ≠ 4000) → σ a = σ a := fun _ _ => rfl
  show G X w 3 0 [(0, .ref (w.1 0)), (1, .int i)] [] σ
  refine g_aload_n h dX12_mends_0 0 rfl ?_
  refine g_iload_n h dX12_mends_1 1 rfl ?_
  refine g_cvpi (rest := []) h (r_isNode hW i μ (by first | exact hv | assumption | fail)) lX12_isNode mX12_287 (Nat.lt_of_lt_of_le (by decide) (Nat.le_refl _)) (by decide) sc_0 rfl rfl rfl rfl dX12_mends_2 ?_
  refine g_ifB_ne h dX12_mends_5 (fun c5 => ?_) (fun c5 => ?_)
  ·
    have hns : ns μ i = 0 := by unfold ns; rw [if_pos (show nB μ i = true from c5)]
    obtain ⟨ei, hi9⟩ := nB_N hI (show nB μ i = true from c5)
    rw [ei]
    show G X w 3 14 [(0, .ref (w.1 0)), (1, .int (nI (toN i)))] [] σ
    refine g_aload_n h dX12_mends_14 0 rfl ?_
    refine g_iconst h dX12_mends_15 (by decide) ?_
    refine g_sipush h dX12_mends_16 (by decide) ?_
    refine g_cvv (rest := []) h (r_save hW nt g μ (by first | exact hv | assumption | fail) (by exact hcLR_σ)) lX12_copies mX12_275 (Nat.lt_of_lt_of_le (by decide) (Nat.le_refl _)) (by decide) sc_0 rfl rfl rfl rfl dX12_mends_19 (fun σ_1 eσ_1 => ?_)
    obtain ⟨eσ_1_a, eσ_1_b, eσ_1_c⟩ := eσ_1
    have eσ_1_a : vw 528 σ_1 = μ := eσ_1_a
    have eσ_1_b : LR 528 σ_1 nt g := eσ_1_b
    have eσ_1_c : ∀ a, (a < 528 ∨ 1056 ≤ a) → σ_1 a = σ a := eσ_1_c
    have hcLR_σ_1 : LR 0 σ_1 nt g := by exact LR.fr hcLR_σ (fun a ha => eσ_1_c a (by first | omega | (simp only [vb] at *; omega)))
    have hcFR_σ_1 : ∀ a, (1056 ≤ a ∧ (a < 4900 ∨ 6000 ≤ a) ∧ a ≠ 4000) → σ_1 a = σ a := by intro a ha; exact Eq.trans (b := σ a) (eσ_1_c a (by first | omega | (simp only [vb] at *; omega))) (hcFR_σ a ha)
    have hcVS_σ_1 : vw 528 σ_1 = μ := eσ_1_a
    have hcLS_σ_1 : LR 528 σ_1 nt g := eσ_1_b
    have hvσ_1 : vw 0 σ_1 = μ := by rw [vw_fr (σ := σ) (fun j _ _ => eσ_1_c _ (by first | omega | (simp only [vb] at *; omega)))]; first | exact hv | assumption
    refine g_aload_n h dX12_mends_22 0 rfl ?_
    refine g_iconst h dX12_mends_23 (by decide) ?_
    refine g_aload_n h dX12_mends_24 0 rfl ?_
    refine g_iconst h dX12_mends_25 (by decide) ?_
    refine g_cvpi (rest := [.int (nI 1), .ref (w.1 0)]) h (r_of hW 1 μ (by assumption) (by omega)) lX12_of mX12_61 (Nat.lt_of_lt_of_le (by decide) (Nat.le_refl _)) (by decide) sc_0 rfl rfl rfl rfl dX12_mends_26 ?_
    refine g_iconst h dX12_mends_29 (by decide) ?_
    refine g_iload_n h dX12_mends_30 1 rfl ?_
    refine g_ishl h dX12_mends_31  ?_
    refine g_top (y := bt1 (toN i)) rfl ?_
    refine g_ixor h dX12_mends_32  ?_
    refine g_top (y := (wth (μ 1) (toN i) (!tb (μ 1) (toN i)))) (xor_bt (by omega)) ?_
    refine g_cvv (rest := []) h (r_puts hW 1 (wth (μ 1) (toN i) (!tb (μ 1) (toN i))) (by omega)) lX12_puts mX12_57 (Nat.lt_of_lt_of_le (by decide) (Nat.le_refl _)) (by decide) sc_0 rfl rfl rfl rfl dX12_mends_33 (fun σ_2 eσ_2 => ?_)
    have eσ_2_a : σ_2 = upd σ_1 (0 + 1) (wth (μ 1) (toN i) (!tb (μ 1) (toN i))) := eσ_2
    have hcLR_σ_2 : LR 0 σ_2 nt g := by rw [eσ_2_a]; exact LR.fr hcLR_σ_1 (fun a ha => upd_ne (by first | omega | (simp only [vb] at *; omega)))
    have hcFR_σ_2 : ∀ a, (1056 ≤ a ∧ (a < 4900 ∨ 6000 ≤ a) ∧ a ≠ 4000) → σ_2 a = σ a := by intro a ha; exact Eq.trans (b := σ_1 a) (by rw [eσ_2_a, upd_ne (by first | omega | (simp only [vb] at *; omega))]) (hcFR_σ_1 a ha)
    have hcVS_σ_2 : vw 528 σ_2 = μ := by rw [eσ_2_a, vw_out (by omega)]; exact hcVS_σ_1
    have hcLS_σ_2 : LR 528 σ_2 nt g := by rw [eσ_2_a]; exact LR.fr hcLS_σ_1 (fun a ha => upd_ne (by first | omega | (simp only [vb] at *; omega)))
    obtain ⟨μk, eμk⟩ : ∃ μk : Nat → Int32, μk = upd μ 1 (wth (μ 1) (toN i) (!tb (μ 1) (toN i))) := ⟨_, rfl⟩
    have hvσ_2 : vw 0 σ_2 = μk := by rw [eσ_2_a, eμk, vw_in (by omega)]; congr 1
    refine g_aload_n h dX12_mends_36 0 rfl ?_
    refine g_cvi (rest := []) h (r_settlesNow hW nt g μk (by first | exact hvσ_2 | assumption | fail) (by rw [eμk]; exact md_mi hI hi9) (by rw [eμk]; exact (upd_ne (by decide)).trans h7) (by omega) (by first | exact hcLR_σ_2 | assumption | fail)) lX12_settlesNow mX12_339 (Nat.lt_of_lt_of_le (by decide) (Nat.le_refl _)) (by decide) sc_0 rfl rfl rfl rfl dX12_mends_37 (fun σ_3 eσ_3 => ?_)
    obtain ⟨eσ_3_a, eσ_3_b, eσ_3_c⟩ := eσ_3
    have eσ_3_a : vw 0 σ_3 = (tkN (μk, 0, nI 0, g) (stK μk g)).1 := eσ_3_a
    have eσ_3_b : LR 0 σ_3 (nA (tkN (μk, 0, nI 0, g) (stK μk g)).1 7) (tkN (μk, 0, nI 0, g) (stK μk g)).2.2.2 := eσ_3_b
    have eσ_3_c : ∀ a, (528 ≤ a ∧ (a < 4900 ∨ 6000 ≤ a)) → σ_3 a = σ_2 a := eσ_3_c
    have hcLR_σ_3 : LR 0 σ_3 (nA (tkN (μk, 0, nI 0, g) (stK μk g)).1 7) (tkN (μk, 0, nI 0, g) (stK μk g)).2.2.2 := eσ_3_b
    have hcFR_σ_3 : ∀ a, (1056 ≤ a ∧ (a < 4900 ∨ 6000 ≤ a) ∧ a ≠ 4000) → σ_3 a = σ a := by intro a ha; exact Eq.trans (b := σ_2 a) (eσ_3_c a (by first | omega | (simp only [vb] at *; omega))) (hcFR_σ_2 a ha)
    have hcVS_σ_3 : vw 528 σ_3 = μ := by rw [vw_fr (fun j _ _ => eσ_3_c _ (by omega))]; exact hcVS_σ_2
    have hcLS_σ_3 : LR 528 σ_3 nt g := by exact LR.fr hcLS_σ_2 (fun a ha => eσ_3_c a (by first | omega | (simp only [vb] at *; omega)))
    obtain ⟨μ_4, eμ_4⟩ : ∃ μ_4 : Nat → Int32, μ_4 = (tkN (μk, 0, nI 0, g) (stK μk g)).1 := ⟨_, rfl⟩
    have hvσ_3 : vw 0 σ_3 = μ_4 := by rw [eμ_4]; exact eσ_3_a
    refine g_top (y := (oI (stO (mdP μ (toN i)) g))) (by rw [eμk]; rfl) ?_
    refine g_istore_n (L' := [(0, .ref (w.1 0)), (1, .int (nI (toN i))), (2, .int (oI (stO (mdP μ (toN i)) g)))]) h dX12_mends_40 rfl (by decide) rfl ?_
    refine g_aload_n h dX12_mends_41 0 rfl ?_
    refine g_sipush h dX12_mends_42 (by decide) ?_
    refine g_iconst h dX12_mends_45 (by decide) ?_
    refine g_cvv (rest := []) h (r_rest hW nt g μ (by exact hcVS_σ_3) (by exact hcLS_σ_3)) lX12_copies mX12_275 (Nat.lt_of_lt_of_le (by decide) (Nat.le_refl _)) (by decide) sc_0 rfl rfl rfl rfl dX12_mends_46 (fun σ_5 eσ_5 => ?_)
    obtain ⟨eσ_5_a, eσ_5_b, eσ_5_c⟩ := eσ_5
    have eσ_5_a : vw 0 σ_5 = μ := eσ_5_a
    have eσ_5_b : LR 0 σ_5 nt g := eσ_5_b
    have eσ_5_c : ∀ a, (528 ≤ a) → σ_5 a = σ_3 a := eσ_5_c
    have hcFR_σ_5 : ∀ a, (1056 ≤ a ∧ (a < 4900 ∨ 6000 ≤ a) ∧ a ≠ 4000) → σ_5 a = σ a := by intro a ha; exact Eq.trans (b := σ_3 a) (eσ_5_c a (by first | omega | (simp only [vb] at *; omega))) (hcFR_σ_3 a ha)
    have hcVS_σ_5 : vw 528 σ_5 = μ := by rw [vw_fr (fun j _ _ => eσ_5_c _ (by omega))]; exact hcVS_σ_3
    have hcLS_σ_5 : LR 528 σ_5 nt g := by exact LR.fr hcLS_σ_3 (fun a ha => eσ_5_c a (by first | omega | (simp only [vb] at *; omega)))
    have hcLR_σ_5 : LR 0 σ_5 nt g := eσ_5_b
    obtain ⟨μ_6, eμ_6⟩ : ∃ μ_6 : Nat → Int32, μ_6 = μ := ⟨_, rfl⟩
    have hvσ_5 : vw 0 σ_5 = μ_6 := by rw [eμ_6]; exact eσ_5_a
    rcases oI_or (stO (mdP μ (toN i)) g) with ⟨hn, he⟩ | ⟨b, hn, he⟩
    ·
      rw [he]
      show G X w 3 49 [(0, .ref (w.1 0)), (1, .int (nI (toN i))), (2, .int (-1))] [] σ_5
      refine g_iload_n h dX12_mends_49 2 rfl ?_
      refine g_iconstv h dX12_mends_50 (v := (-1)) (by decide) ?_
      refine g_icmp_ne h dX12_mends_51 (fun c51 => (by exfalso; first | exact c51 rfl | exact nI_ne_m1 (by omega) c51 | exact c51 (nI_ne_m1 (by omega)) | exact nI_le_m1 (by omega) c51 | exact c51 (m1_lt (by omega)) | exact absurd c51 (by decide))) (fun c51 => ?_)
      refine g_aload_n h dX12_mends_54 0 rfl ?_
      refine g_bipush h dX12_mends_55 (by decide) ?_
      refine g_cvi (rest := []) h (r_refuse hW (nI 8) ) lX12_refuse mX12_272 (Nat.lt_of_lt_of_le (by decide) (Nat.le_refl _)) (by decide) sc_0 rfl rfl rfl rfl dX12_mends_57 (fun σ_7 eσ_7 => ?_)
      have eσ_7_a : σ_7 = upd σ_5 4000 (nI 8) := eσ_7
      have ht4000_σ_7 : σ_7 4000 = (nI 8) := by rw [eσ_7_a]; exact upd_eq
      have hcFR_σ_7 : ∀ a, (1056 ≤ a ∧ (a < 4900 ∨ 6000 ≤ a) ∧ a ≠ 4000) → σ_7 a = σ a := by intro a ha; exact Eq.trans (b := σ_5 a) (by rw [eσ_7_a, upd_ne (by first | omega | (simp only [vb] at *; omega))]) (hcFR_σ_5 a ha)
      have hcVS_σ_7 : vw 528 σ_7 = μ := by rw [eσ_7_a, vw_out (by omega)]; exact hcVS_σ_5
      have hcLS_σ_7 : LR 528 σ_7 nt g := by rw [eσ_7_a]; exact LR.fr hcLS_σ_5 (fun a ha => upd_ne (by first | omega | (simp only [vb] at *; omega)))
      have hcLR_σ_7 : LR 0 σ_7 nt g := by rw [eσ_7_a]; exact LR.fr hcLR_σ_5 (fun a ha => upd_ne (by first | omega | (simp only [vb] at *; omega)))
      have hvσ_7 : vw 0 σ_7 = μ_6 := by rw [eσ_7_a, vw_out (by omega)]; first | exact hvσ_5 | assumption
      refine g_goto h dX12_mends_60 ?_
      exact g_iret h hQ dX12_mends_68 (congrArg (fun z => some (Value.int z)) (show (an (fo (ns μ i) (stS (mdP μ (toN i)) g)) (oI (stO (mdP μ (toN i)) g))) = (-1) by first | exact an_yes (by first | exact (fo_r hns).trans (stS_n hn) | exact (fo_r hns).trans (stS_s hn) | (simp [fo, ns, nB, c5]; done) | fail) (by exact he) | exact an_no (k := 8) (by first | exact (fo_r hns).trans (stS_n hn) | exact (fo_r hns).trans (stS_s hn) | (simp [fo, ns, nB, c5]; done) | fail) (by decide) | fail)) (by exact ⟨(by first | exact hvσ_7 | (rw [hvσ_7]; simp only [eμ_6, eμ_4, eμk]) | fail), (by exact tk_eq (k := 8) (by first | exact (fo_r hns).trans (stS_n hn) | exact (fo_r hns).trans (stS_s hn) | (simp [fo, ns, nB, c5]; done) | fail) ht4000_σ_7), (by first | exact hcLR_σ_7 | assumption | fail), (by exact hcFR_σ_7)⟩)
    ·
      rw [he]
      have hb9 := stO_lt hn
      show G X w 3 49 [(0, .ref (w.1 0)), (1, .int (nI (toN i))), (2, .int (nI b))] [] σ_5
      refine g_iload_n h dX12_mends_49 2 rfl ?_
      refine g_iconstv h dX12_mends_50 (v := (-1)) (by decide) ?_
      refine g_icmp_ne h dX12_mends_51 (fun c51 => ?_) (fun c51 => (by exfalso; first | exact c51 rfl | exact nI_ne_m1 (by omega) c51 | exact c51 (nI_ne_m1 (by omega)) | exact nI_le_m1 (by omega) c51 | exact c51 (m1_lt (by omega)) | exact absurd c51 (by decide)))
      refine g_aload_n h dX12_mends_63 0 rfl ?_
      refine g_iload_n h dX12_mends_64 2 rfl ?_
      refine g_cvi (rest := []) h (r_gives hW (nI b) ) lX12_gives mX12_281 (Nat.lt_of_lt_of_le (by decide) (Nat.le_refl _)) (by decide) sc_0 rfl rfl rfl rfl dX12_mends_65 (fun σ_8 eσ_8 => ?_)
      have eσ_8_a : σ_8 = upd σ_5 4000 (nI 0) := eσ_8
      have ht4000_σ_8 : σ_8 4000 = (nI 0) := by rw [eσ_8_a]; exact upd_eq
      have hcFR_σ_8 : ∀ a, (1056 ≤ a ∧ (a < 4900 ∨ 6000 ≤ a) ∧ a ≠ 4000) → σ_8 a = σ a := by intro a ha; exact Eq.trans (b := σ_5 a) (by rw [eσ_8_a, upd_ne (by first | omega | (simp only [vb] at *; omega))]) (hcFR_σ_5 a ha)
      have hcVS_σ_8 : vw 528 σ_8 = μ := by rw [eσ_8_a, vw_out (by omega)]; exact hcVS_σ_5
      have hcLS_σ_8 : LR 528 σ_8 nt g := by rw [eσ_8_a]; exact LR.fr hcLS_σ_5 (fun a ha => upd_ne (by first | omega | (simp only [vb] at *; omega)))
      have hcLR_σ_8 : LR 0 σ_8 nt g := by rw [eσ_8_a]; exact LR.fr hcLR_σ_5 (fun a ha => upd_ne (by first | omega | (simp only [vb] at *; omega)))
      have hvσ_8 : vw 0 σ_8 = μ_6 := by rw [eσ_8_a, vw_out (by omega)]; first | exact hvσ_5 | assumption
      exact g_iret h hQ dX12_mends_68 (congrArg (fun z => some (Value.int z)) (show (an (fo (ns μ i) (stS (mdP μ (toN i)) g)) (oI (stO (mdP μ (toN i)) g))) = (nI b) by first | exact an_yes (by first | exact (fo_r hns).trans (stS_n hn) | exact (fo_r hns).trans (stS_s hn) | (simp [fo, ns, nB, c5]; done) | fail) (by exact he) | exact an_no (k := 0) (by first | exact (fo_r hns).trans (stS_n hn) | exact (fo_r hns).trans (stS_s hn) | (simp [fo, ns, nB, c5]; done) | fail) (by decide) | fail)) (by exact ⟨(by first | exact hvσ_8 | (rw [hvσ_8]; simp only [eμ_6, eμ_4, eμk]) | fail), (by exact tk_eq (k := 0) (by first | exact (fo_r hns).trans (stS_n hn) | exact (fo_r hns).trans (stS_s hn) | (simp [fo, ns, nB, c5]; done) | fail) ht4000_σ_8), (by first | exact hcLR_σ_8 | assumption | fail), (by exact hcFR_σ_8)⟩)
  ·
    refine g_aload_n h dX12_mends_8 0 rfl ?_
    refine g_iconst h dX12_mends_9 (by decide) ?_
    refine g_cvi (rest := []) h (r_refuse hW (nI 2) ) lX12_refuse mX12_272 (Nat.lt_of_lt_of_le (by decide) (Nat.le_refl _)) (by decide) sc_0 rfl rfl rfl rfl dX12_mends_10 (fun σ_9 eσ_9 => ?_)
    have eσ_9_a : σ_9 = upd σ 4000 (nI 2) := eσ_9
    have ht4000_σ_9 : σ_9 4000 = (nI 2) := by rw [eσ_9_a]; exact upd_eq
    have hcLR_σ_9 : LR 0 σ_9 nt g := by rw [eσ_9_a]; exact LR.fr hcLR_σ (fun a ha => upd_ne (by first | omega | (simp only [vb] at *; omega)))
    have hcFR_σ_9 : ∀ a, (1056 ≤ a ∧ (a < 4900 ∨ 6000 ≤ a) ∧ a ≠ 4000) → σ_9 a = σ a := by intro a ha; exact Eq.trans (b := σ a) (by rw [eσ_9_a, upd_ne (by first | omega | (simp only [vb] at *; omega))]) (hcFR_σ a ha)
    have hvσ_9 : vw 0 σ_9 = μ := by rw [eσ_9_a, vw_out (by omega)]; first | exact hv | assumption
    exact g_iret h hQ dX12_mends_13 (congrArg (fun z => some (Value.int z)) (show (an (fo (ns μ i) (stS (mdP μ (toN i)) g)) (oI (stO (mdP μ (toN i)) g))) = (-1) by first | exact an_yes (by first | exact (fo_r hns).trans (stS_n hn) | exact (fo_r hns).trans (stS_s hn) | (simp [fo, ns, nB, c5]; done) | fail) (by exact he) | exact an_no (k := 2) (by first | exact (fo_r hns).trans (stS_n hn) | exact (fo_r hns).trans (stS_s hn) | (simp [fo, ns, nB, c5]; done) | fail) (by decide) | fail)) (by exact ⟨(by first | exact hvσ_9 | (rw [hvσ_9]; simp only [Nat.add_zero]) | fail), (by exact tk_eq (k := 2) (by first | exact (fo_r hns).trans (stS_n hn) | exact (fo_r hns).trans (stS_s hn) | (simp [fo, ns, nB, c5]; done) | fail) ht4000_σ_9), (by first | exact hcLR_σ_9 | assumption | fail), (by exact hcFR_σ_9)⟩)

set_option maxRecDepth 100000 in
set_option maxHeartbeats 4000000 in
theorem p_mends {l : Launch} {w : Wd} (hW : Wi w) {σ : Mem} (i : Int32) (nt : Nat) (g : Nat → Nat → Int32) (μ μ1 : Nat → Int32) (hv : vw (vb 0) σ = μ) (hI : MI μ) (hw : vw (vb 1) σ = μ1) (hjz : jz μ) (hjz1 : jz μ1) (h7 : μ 7 = nI nt) (hnt : nt + 1000 < 2 ^ 30) (hcLD_σ : LC (vb 0) σ nt g) : MC l w qX11_mends 7 [.ref (w.1 12), .int i] σ (some (.int (an (fo (ns μ i) (stS (mdP μ (toN i)) g)) (oI (stO (mdP μ (toN i)) g))))) (fun σ' => (σ' 14000 = (nI (fo (ns μ i) (stS (mdP μ (toN i)) g)))) ∧ (∃ ν, vw (vb 1) σ' = ν ∧ jz ν) ∧ (∀ a, ((a < vb 1 ∨ vb 1 + 528 ≤ a) ∧ a < 14900 ∧ a ≠ 14000) → σ' a = σ a)) := by
  refine MC.of hW (by decide +kernel) (Nat.le_of_ble_eq_true rfl) (fun X h hQ hnm => ?_)
  have h : Fx X w cX11_mends 3 RX11 7 := h
  have hQ : Qx X w (some .int) (some (.int (an (fo (ns μ i) (stS (mdP μ (toN i)) g)) (oI (stO (mdP μ (toN i)) g))))) (fun σ' => (σ' 14000 = (nI (fo (ns μ i) (stS (mdP μ (toN i)) g)))) ∧ (∃ ν, vw (vb 1) σ' = ν ∧ jz ν) ∧ (∀ a, ((a < vb 1 ∨ vb 1 + 528 ≤ a) ∧ a < 14900 ∧ a ≠ 14000) → σ' a = σ a)) := hQ
  have hN8 := mi_8 hI
  have hvb0 : vb 0 = 10000 := rfl
  have hvb1 : vb 1 = 10528 := rfl
  have hcFR_σ : ∀ a, ((a < vb 1 ∨ vb 1 + 528 ≤ a) ∧ a < 14900 ∧ a ≠ 14000) → σ a = σ a := fun _ _ => rfl
  show G X w 3 0 [(0, .ref (w.1 12)), (1, .int i)] [] σ
  refine g_aload_n h dX11_mends_0 0 rfl ?_
  refine g_aload_n h dX11_mends_1 0 rfl ?_
  refine g_iload_n h dX11_mends_2 1 rfl ?_
  refine g_cvpi (rest := [.ref (w.1 12)]) h (c_ns hW i μ (by first | exact hv | assumption | fail)) lX11_nodeStatus mX11_159 (Nat.lt_of_lt_of_le (by decide) (Nat.le_refl _)) (by decide) sc_12 rfl rfl rfl rfl dX11_mends_3 ?_
  refine g_cvi (rest := []) h (c_fails hW (ns μ i) (by repeat (first | omega | exact rg_lt | exact ns_lt | exact ps_lt | exact gst_lt | exact ofS_lt | exact if_lt (by decide) (by decide) | apply fo_lt))) lX11_fails mX11_106 (Nat.lt_of_lt_of_le (by decide) (Nat.le_refl _)) (by decide) sc_12 rfl rfl rfl rfl dX11_mends_6 (fun σ_1 eσ_1 => ?_)
  obtain ⟨eσ_1_a, eσ_1_b⟩ := eσ_1
  have eσ_1_a : σ_1 14000 = (nI (ns μ i)) := eσ_1_a
  have eσ_1_b : ∀ a, (a ≠ 14000) → σ_1 a = σ a := eσ_1_b
  have ht14000_σ_1 : σ_1 14000 = (nI (ns μ i)) := eσ_1_a
  have hcLD_σ_1 : LC (vb 0) σ_1 nt g := by exact LC.fr hcLD_σ (fun a ha hb => eσ_1_b a (by first | omega | (simp only [vb] at *; omega)))
  have hcFR_σ_1 : ∀ a, ((a < vb 1 ∨ vb 1 + 528 ≤ a) ∧ a < 14900 ∧ a ≠ 14000) → σ_1 a = σ a := by intro a ha; exact Eq.trans (b := σ a) (eσ_1_b a (by first | omega | (simp only [vb] at *; omega))) (hcFR_σ a ha)
  have hvσ_1 : vw (vb 0) σ_1 = μ := by rw [vw_fr (σ := σ) (fun j _ _ => eσ_1_b _ (by first | omega | (simp only [vb] at *; omega)))]; first | exact hv | assumption
  have hwσ_1 : vw (vb 1) σ_1 = μ1 := by rw [vw_fr (σ := σ) (fun j _ _ => eσ_1_b _ (by first | omega | (simp only [vb] at *; omega)))]; first | exact hw | assumption
  refine g_ifB_eq h dX11_mends_9 (fun c9 => ?_) (fun c9 => ?_)
  ·
    have hns := nb0 c9
    obtain ⟨ei, hi9⟩ := nB_N hI (ns_0 hns)
    rw [ei]
    show G X w 3 14 [(0, .ref (w.1 12)), (1, .int (nI (toN i)))] [] σ_1
    refine g_aload_n h dX11_mends_14 0 rfl ?_
    refine g_getr h dX11_mends_15 gX11_27 sc_12 rfl ?_
    refine g_aload_n h dX11_mends_18 0 rfl ?_
    refine g_getr h dX11_mends_19 gX11_23 sc_12 rfl ?_
    refine g_cvv (rest := []) h (c_become hW nt g 1 0 μ1 μ (by first | omega | decide | fail) (by first | omega | decide | fail) (by first | omega | decide | fail) (by first | exact hvσ_1 | assumption | fail) (by first | exact w | assumption | fail) (by intro a h1 h2; rw [hjz a h1 h2]; exact hjz1 a h1 h2) (by first | exact hcLD_σ_1 | assumption | fail)) lX5_become mX11_116 (Nat.lt_of_lt_of_le (by decide) (Nat.le_refl _)) (by decide) (sM_0 (m := 1) (by decide)) rfl rfl rfl rfl dX11_mends_22 (fun σ_2 eσ_2 => ?_)
    obtain ⟨eσ_2_a, eσ_2_b, eσ_2_c, eσ_2_d⟩ := eσ_2
    have eσ_2_a : vw (vb 1) σ_2 = μ := eσ_2_a
    have eσ_2_b : LC (vb 0) σ_2 nt g := eσ_2_b
    have eσ_2_c : LC (vb 1) σ_2 nt g := eσ_2_c
    have eσ_2_d : ∀ a, (a < vb 1 ∨ vb 1 + 528 ≤ a) → σ_2 a = σ_1 a := eσ_2_d
    have ht14000_σ_2 : σ_2 14000 = (nI (ns μ i)) := by rw [eσ_2_d _ (by first | omega | (simp only [vb] at *; omega))]; first | exact ht14000_σ_1 | assumption
    have hcLD_σ_2 : LC (vb 0) σ_2 nt g := eσ_2_b
    have hcFR_σ_2 : ∀ a, ((a < vb 1 ∨ vb 1 + 528 ≤ a) ∧ a < 14900 ∧ a ≠ 14000) → σ_2 a = σ a := by intro a ha; exact Eq.trans (b := σ_1 a) (eσ_2_d a (by first | omega | (simp only [vb] at *; omega))) (hcFR_σ_1 a ha)
    have hcLC_σ_2 : LC (vb 1) σ_2 nt g := eσ_2_c
    have hvσ_2 : vw (vb 0) σ_2 = μ := by rw [vw_fr (σ := σ_1) (fun j _ _ => eσ_2_d _ (by first | omega | (simp only [vb] at *; omega)))]; first | exact hvσ_1 | assumption
    obtain ⟨μk, eμk⟩ : ∃ μk : Nat → Int32, μk = μ := ⟨_, rfl⟩
    have hwσ_2 : vw (vb 1) σ_2 = μk := by rw [eμk]; exact eσ_2_a
    refine g_aload_n h dX11_mends_25 0 rfl ?_
    refine g_getr h dX11_mends_26 gX11_27 sc_12 rfl ?_
    refine g_aload_n h dX11_mends_29 0 rfl ?_
    refine g_getr h dX11_mends_30 gX11_27 sc_12 rfl ?_
    refine g_geti h dX11_mends_33 gX11_123 (sM_0 (m := 1) (by decide)) rfl ?_
    refine g_top (y := μk 1) (vw_pic (b := (vb 1)) (k := 1) (by first | exact hwσ_2 | assumption) (by omega)) ?_
    refine g_top (y := (μ 1)) (by rw [eμk]) ?_
    refine g_iload_n h dX11_mends_36 1 rfl ?_
    refine g_aload_n h dX11_mends_37 0 rfl ?_
    refine g_getr h dX11_mends_38 gX11_23 sc_12 rfl ?_
    have J53 : ∀ (pb : Bool), (pb = !tb (μ 1) (toN i)) → G X w 3 53 [(0, .ref (w.1 12)), (1, .int (nI (toN i)))] [.int (b2i pb), .int (nI (toN i)), .int (μ 1), .ref (w.1 (mc 1 0))] σ_2 := by
      intro pb hpb
      refine g_cspi (rest := [.ref (w.1 (mc 1 0))]) h (c_with hW (μ 1) (toN i) pb ) lX5_with mX11_279 (Nat.lt_of_lt_of_le (by decide) (Nat.le_refl _)) (by decide) rfl rfl rfl dX11_mends_53 ?_
      refine g_puti h dX11_mends_56 pX11_123 (sM_0 (m := 1) (by decide)) rfl ?_
      refine g_nm (fun σ_3 eσ_3 => ?_)
      have eσ_3 : σ_3 = upd σ_2 ((vb 1) + 1) (wth (μ 1) (toN i) pb) := eσ_3
      have ht14000_σ_3 : σ_3 14000 = (nI (ns μ i)) := by rw [eσ_3, upd_ne (by first | omega | (simp only [vb] at *; omega))]; first | exact ht14000_σ_2 | assumption
      have hcLD_σ_3 : LC (vb 0) σ_3 nt g := by rw [eσ_3]; exact LC.fr hcLD_σ_2 (fun a ha hb => upd_ne (by first | omega | (simp only [vb] at *; omega)))
      have hcFR_σ_3 : ∀ a, ((a < vb 1 ∨ vb 1 + 528 ≤ a) ∧ a < 14900 ∧ a ≠ 14000) → σ_3 a = σ a := by intro a ha; exact Eq.trans (b := σ_2 a) (by rw [eσ_3, upd_ne (by first | omega | (simp only [vb] at *; omega))]) (hcFR_σ_2 a ha)
      have hcLC_σ_3 : LC (vb 1) σ_3 nt g := by rw [eσ_3]; exact LC.fr hcLC_σ_2 (fun a ha hb => upd_ne (by first | omega | (simp only [vb] at *; omega)))
      have hvσ_3 : vw (vb 0) σ_3 = μ := by rw [eσ_3, vw_out (by first | omega | (simp only [vb] at *; omega))]; first | exact hvσ_2 | assumption
      obtain ⟨μm, eμm⟩ : ∃ μm : Nat → Int32, μm = upd μk 1 (wth (μ 1) (toN i) pb) := ⟨_, rfl⟩
      have hwσ_3 : vw (vb 1) σ_3 = μm := by rw [eσ_3, eμm, vw_in (by omega)]; congr 1
      refine g_aload_n h dX11_mends_59 0 rfl ?_
      refine g_cvi (rest := []) h (c_ticksTillTold hW nt g μm (by assumption) (by rw [eμm, eμk, hpb]; exact md_mi hI hi9) (by rw [eμm, eμk]; exact (upd_ne (by decide)).trans h7) (by omega) (by first | exact hcLC_σ_3 | assumption | fail)) lX11_ticksTillTold mX11_316 (Nat.lt_of_lt_of_le (by decide) (Nat.le_refl _)) (by decide) sc_12 rfl rfl rfl rfl dX11_mends_60 (fun σ_4 eσ_4 => ?_)
      obtain ⟨eσ_4_a, eσ_4_b⟩ := eσ_4
      have eσ_4_a : vw (vb 1) σ_4 = (tkN (μm, 0, nI 0, g) (stC μm g)).1 := eσ_4_a
      have eσ_4_b : ∀ a, ((a < vb 1 ∨ vb 1 + 528 ≤ a) ∧ a < 14900) → σ_4 a = σ_3 a := eσ_4_b
      have ht14000_σ_4 : σ_4 14000 = (nI (ns μ i)) := by rw [eσ_4_b _ (by first | omega | (simp only [vb] at *; omega))]; first | exact ht14000_σ_3 | assumption
      have hcLD_σ_4 : LC (vb 0) σ_4 nt g := by exact LC.fr hcLD_σ_3 (fun a ha hb => eσ_4_b a (by first | omega | (simp only [vb] at *; omega)))
      have hcFR_σ_4 : ∀ a, ((a < vb 1 ∨ vb 1 + 528 ≤ a) ∧ a < 14900 ∧ a ≠ 14000) → σ_4 a = σ a := by intro a ha; exact Eq.trans (b := σ_3 a) (eσ_4_b a (by first | omega | (simp only [vb] at *; omega))) (hcFR_σ_3 a ha)
      have hvσ_4 : vw (vb 0) σ_4 = μ := by rw [vw_fr (σ := σ_3) (fun j _ _ => eσ_4_b _ (by first | omega | (simp only [vb] at *; omega)))]; first | exact hvσ_3 | assumption
      obtain ⟨μe, eμe⟩ : ∃ μe : Nat → Int32, μe = (tkN (μm, 0, nI 0, g) (stC μm g)).1 := ⟨_, rfl⟩
      have hwσ_4 : vw (vb 1) σ_4 = μe := by rw [eμe]; exact eσ_4_a
      refine g_top (y := (oI (stO (mdP μ (toN i)) g))) (by rw [eμm, eμk, hpb]; rfl) ?_
      refine g_istore_n (L' := [(0, .ref (w.1 12)), (1, .int (nI (toN i))), (2, .int (oI (stO (mdP μ (toN i)) g)))]) h dX11_mends_63 rfl (by decide) rfl ?_
      rcases oI_or (stO (mdP μ (toN i)) g) with ⟨hn, he⟩ | ⟨b, hn, he⟩
      ·
        rw [he]
        show G X w 3 64 [(0, .ref (w.1 12)), (1, .int (nI (toN i))), (2, .int (-1))] [] σ_4
        refine g_aload_n h dX11_mends_64 0 rfl ?_
        refine g_iload_n h dX11_mends_65 2 rfl ?_
        refine g_iconstv h dX11_mends_66 (v := (-1)) (by decide) ?_
        refine g_icmp_ne h dX11_mends_67 (fun c67 => (by exfalso; first | exact c67 rfl | exact nI_ne_m1 (by omega) c67 | exact c67 (nI_ne_m1 (by omega)) | exact nI_le_m1 (by omega) c67 | exact c67 (m1_lt (by omega)) | exact absurd c67 (by decide))) (fun c67 => ?_)
        refine g_bipush h dX11_mends_70 (by decide) ?_
        refine g_goto h dX11_mends_72 ?_
        refine g_cvi (rest := []) h (c_fails hW 8 (by repeat (first | omega | exact rg_lt | exact ns_lt | exact ps_lt | exact gst_lt | exact ofS_lt | exact if_lt (by decide) (by decide) | apply fo_lt))) lX11_fails mX11_106 (Nat.lt_of_lt_of_le (by decide) (Nat.le_refl _)) (by decide) sc_12 rfl rfl rfl rfl dX11_mends_76 (fun σ_5 eσ_5 => ?_)
        obtain ⟨eσ_5_a, eσ_5_b⟩ := eσ_5
        have eσ_5_a : σ_5 14000 = (nI 8) := eσ_5_a
        have eσ_5_b : ∀ a, (a ≠ 14000) → σ_5 a = σ_4 a := eσ_5_b
        have ht14000_σ_5 : σ_5 14000 = (nI 8) := eσ_5_a
        have hcLD_σ_5 : LC (vb 0) σ_5 nt g := by exact LC.fr hcLD_σ_4 (fun a ha hb => eσ_5_b a (by first | omega | (simp only [vb] at *; omega)))
        have hcFR_σ_5 : ∀ a, ((a < vb 1 ∨ vb 1 + 528 ≤ a) ∧ a < 14900 ∧ a ≠ 14000) → σ_5 a = σ a := by intro a ha; exact Eq.trans (b := σ_4 a) (eσ_5_b a (by first | omega | (simp only [vb] at *; omega))) (hcFR_σ_4 a ha)
        have hvσ_5 : vw (vb 0) σ_5 = μ := by rw [vw_fr (σ := σ_4) (fun j _ _ => eσ_5_b _ (by first | omega | (simp only [vb] at *; omega)))]; first | exact hvσ_4 | assumption
        have hwσ_5 : vw (vb 1) σ_5 = μe := by rw [vw_fr (σ := σ_4) (fun j _ _ => eσ_5_b _ (by first | omega | (simp only [vb] at *; omega)))]; first | exact hwσ_4 | assumption
        refine g_top (y := nI 1) rfl ?_
        refine g_ifN_eq h dX11_mends_79 (by decide) (fun c79 => absurd c79 (by decide)) (fun c79 => ?_)
        refine g_iconstv h dX11_mends_82 (v := (-1)) (by decide) ?_
        refine g_goto h dX11_mends_83 ?_
        exact g_iret h hQ dX11_mends_87 (congrArg (fun z => some (Value.int z)) (show (an (fo (ns μ i) (stS (mdP μ (toN i)) g)) (oI (stO (mdP μ (toN i)) g))) = (-1) by first | exact an_yes (by first | exact (fo_r hns).trans (stS_n hn) | exact (fo_r hns).trans (stS_s hn) | (simp [fo, ns, nB, c9]; done) | fail) (by exact he) | exact an_no (k := 8) (by first | exact fo_l (nb1 c9) | (first | exact (fo_r hns).trans (stS_n hn) | exact (fo_r hns).trans (stS_s hn) | (simp [fo, ns, nB, c9]; done) | fail)) (by first | decide | exact nb1 c9) | fail)) (by exact ⟨(by first | exact tk_eq (k := 8) (by first | exact (fo_r hns).trans (stS_n hn) | exact (fo_r hns).trans (stS_s hn) | (simp [fo, ns, nB, c9]; done) | fail) ht14000_σ_5 | exact tk_eq (k := 8) (by exact fo_l (nb1 c9)) ht14000_σ_5 | fail), (by first | exact ⟨μ1, hw, hjz1⟩ | exact ⟨μ1, by assumption, hjz1⟩ | exact ⟨μe, by assumption, fun a h1 h2 => by rw [eμe, tkN_z (by rw [eμm, eμk, hpb]; exact md_mi hI hi9) h1 h2]; show μm a = 0; rw [eμm, upd_ne (by omega), eμk]; exact hjz a h1 h2⟩ | fail), (by exact hcFR_σ_5)⟩)
      ·
        rw [he]
        have hb9 := stO_lt hn
        show G X w 3 64 [(0, .ref (w.1 12)), (1, .int (nI (toN i))), (2, .int (nI b))] [] σ_4
        refine g_aload_n h dX11_mends_64 0 rfl ?_
        refine g_iload_n h dX11_mends_65 2 rfl ?_
        refine g_iconstv h dX11_mends_66 (v := (-1)) (by decide) ?_
        refine g_icmp_ne h dX11_mends_67 (fun c67 => ?_) (fun c67 => (by exfalso; first | exact c67 rfl | exact nI_ne_m1 (by omega) c67 | exact c67 (nI_ne_m1 (by omega)) | exact nI_le_m1 (by omega) c67 | exact c67 (m1_lt (by omega)) | exact absurd c67 (by decide)))
        refine g_iconst h dX11_mends_75 (by decide) ?_
        refine g_cvi (rest := []) h (c_fails hW 0 (by repeat (first | omega | exact rg_lt | exact ns_lt | exact ps_lt | exact gst_lt | exact ofS_lt | exact if_lt (by decide) (by decide) | apply fo_lt))) lX11_fails mX11_106 (Nat.lt_of_lt_of_le (by decide) (Nat.le_refl _)) (by decide) sc_12 rfl rfl rfl rfl dX11_mends_76 (fun σ_6 eσ_6 => ?_)
        obtain ⟨eσ_6_a, eσ_6_b⟩ := eσ_6
        have eσ_6_a : σ_6 14000 = (nI 0) := eσ_6_a
        have eσ_6_b : ∀ a, (a ≠ 14000) → σ_6 a = σ_4 a := eσ_6_b
        have ht14000_σ_6 : σ_6 14000 = (nI 0) := eσ_6_a
        have hcLD_σ_6 : LC (vb 0) σ_6 nt g := by exact LC.fr hcLD_σ_4 (fun a ha hb => eσ_6_b a (by first | omega | (simp only [vb] at *; omega)))
        have hcFR_σ_6 : ∀ a, ((a < vb 1 ∨ vb 1 + 528 ≤ a) ∧ a < 14900 ∧ a ≠ 14000) → σ_6 a = σ a := by intro a ha; exact Eq.trans (b := σ_4 a) (eσ_6_b a (by first | omega | (simp only [vb] at *; omega))) (hcFR_σ_4 a ha)
        have hvσ_6 : vw (vb 0) σ_6 = μ := by rw [vw_fr (σ := σ_4) (fun j _ _ => eσ_6_b _ (by first | omega | (simp only [vb] at *; omega)))]; first | exact hvσ_4 | assumption
        have hwσ_6 : vw (vb 1) σ_6 = μe := by rw [vw_fr (σ := σ_4) (fun j _ _ => eσ_6_b _ (by first | omega | (simp only [vb] at *; omega)))]; first | exact hwσ_4 | assumption
        refine g_top (y := nI 0) rfl ?_
        refine g_ifN_eq h dX11_mends_79 (by decide) (fun c79 => ?_) (fun c79 => absurd c79 (by decide))
        refine g_iload_n h dX11_mends_86 2 rfl ?_
        exact g_iret h hQ dX11_mends_87 (congrArg (fun z => some (Value.int z)) (show (an (fo (ns μ i) (stS (mdP μ (toN i)) g)) (oI (stO (mdP μ (toN i)) g))) = (nI b) by first | exact an_yes (by first | exact (fo_r hns).trans (stS_n hn) | exact (fo_r hns).trans (stS_s hn) | (simp [fo, ns, nB, c9]; done) | fail) (by exact he) | exact an_no (k := 0) (by first | exact fo_l (nb1 c9) | (first | exact (fo_r hns).trans (stS_n hn) | exact (fo_r hns).trans (stS_s hn) | (simp [fo, ns, nB, c9]; done) | fail)) (by first | decide | exact nb1 c9) | fail)) (by exact ⟨(by first | exact tk_eq (k := 0) (by first | exact (fo_r hns).trans (stS_n hn) | exact (fo_r hns).trans (stS_s hn) | (simp [fo, ns, nB, c9]; done) | fail) ht14000_σ_6 | exact tk_eq (k := 0) (by exact fo_l (nb1 c9)) ht14000_σ_6 | fail), (by first | exact ⟨μ1, hw, hjz1⟩ | exact ⟨μ1, by assumption, hjz1⟩ | exact ⟨μe, by assumption, fun a h1 h2 => by rw [eμe, tkN_z (by rw [eμm, eμk, hpb]; exact md_mi hI hi9) h1 h2]; show μm a = 0; rw [eμm, upd_ne (by omega), eμk]; exact hjz a h1 h2⟩ | fail), (by exact hcFR_σ_6)⟩)
    refine g_iload_n h dX11_mends_41 1 rfl ?_
    refine g_cvpi (rest := [.int (nI (toN i)), .int (μ 1), .ref (w.1 (mc 1 0))]) h (c_isOnJ hW (toN i) 0 μ (by first | omega | decide | fail) (by first | exact hvσ_2 | assumption | fail) (by assumption) (by omega)) lX5_isOn mX11_167 (Nat.lt_of_lt_of_le (by decide) (Nat.le_refl _)) (by decide) (sM_0 (m := 0) (by decide)) rfl rfl rfl rfl dX11_mends_42 ?_
    refine g_ifB_ne h dX11_mends_45 (fun c45 => ?_) (fun c45 => ?_)
    ·
      refine g_iconst h dX11_mends_52 (by decide) ?_
      exact J53 false (by simp [c9, c45])
    ·
      refine g_iconst h dX11_mends_48 (by decide) ?_
      refine g_goto h dX11_mends_49 ?_
      exact J53 true (by simp [c9, c45])
  ·
    refine g_iconstv h dX11_mends_12 (v := (-1)) (by decide) ?_
    exact g_iret h hQ dX11_mends_13 (congrArg (fun z => some (Value.int z)) (show (an (fo (ns μ i) (stS (mdP μ (toN i)) g)) (oI (stO (mdP μ (toN i)) g))) = (-1) by first | exact an_yes (by first | exact (fo_r hns).trans (stS_n hn) | exact (fo_r hns).trans (stS_s hn) | (simp [fo, ns, nB, c9]; done) | fail) (by exact he) | exact an_no (k := (ns μ i)) (by first | exact fo_l (nb1 c9) | (first | exact (fo_r hns).trans (stS_n hn) | exact (fo_r hns).trans (stS_s hn) | (simp [fo, ns, nB, c9]; done) | fail)) (by first | decide | exact nb1 c9) | fail)) (by exact ⟨(by first | exact tk_eq (k := (ns μ i)) (by first | exact (fo_r hns).trans (stS_n hn) | exact (fo_r hns).trans (stS_s hn) | (simp [fo, ns, nB, c9]; done) | fail) ht14000_σ_1 | exact tk_eq (k := (ns μ i)) (by exact fo_l (nb1 c9)) ht14000_σ_1 | fail), (by first | exact ⟨μ1, hw, hjz1⟩ | exact ⟨μ1, by assumption, hjz1⟩ | exact ⟨μe, by assumption, fun a h1 h2 => by rw [eμe, tkN_z (by rw [eμm, eμk, hpb]; exact md_mi hI hi9) h1 h2]; show μm a = 0; rw [eμm, upd_ne (by omega), eμk]; exact hjz a h1 h2⟩ | fail), (by exact hcFR_σ_1)⟩)
