/-! meshes become others, or new -/
theorem lc_cp {b b2 n : Nat} {g : Nat → Nat → Int32} {σ : Mem} (h : LC b2 σ n g) : LC b (cp σ (b + 464) (b2 + 464) 64) n g := fun i wq hi hw => by
  rw [cp_at (by omega)]
  exact h i wq hi hw
theorem vw_z {b a : Nat} {σ : Mem} {μ : Nat → Int32} (h : vw b σ = μ) (ha : 464 ≤ a ∨ a = 10) : μ a = 0 := by
  rw [← h]
  unfold vw
  rw [if_neg (by omega)]
def nwP (μ ν : Nat → Int32) : Nat → Int32 := fun a => if (7 ≤ a ∧ a < 10) ∨ (32 ≤ a ∧ a < 48) ∨ (272 ≤ a ∧ a < 464) then ν a else μ a
def lkP (μ ν : Nat → Int32) : Nat → Int32 := fun a => if 48 ≤ a ∧ a < 208 then ν a else μ a
/-- a new mesh -/
def bgP : Nat → Int32 := fun a => if a = 3 then nI 2 else if a = 4 then nI 6 else if a = 5 then nI 700 else if a = 6 then nI 300 else nI 0
set_option maxRecDepth 100000 in
set_option maxHeartbeats 16000000 in
theorem c_lkBecome {l : Launch} {w : Wd} (hW : Wi w) {σ : Mem} (m m2 : Nat) (μ μ2 : Nat → Int32) (hm : m < 6) (hm2 : m2 < 6) (hne : m ≠ m2) (hv : vw (vb m) σ = μ) (hw : vw (vb m2) σ = μ2) : MC l w qX3_become 1 [.ref (w.1 (mc m 4)), .ref (w.1 (mc m2 4))] σ none (fun σ' => (vw (vb m) σ' = lkP μ μ2) ∧ (∀ a, (a < vb m + 48 ∨ vb m + 208 ≤ a) → σ' a = σ a)) := by
  refine MC.of hW (by decide +kernel) (Nat.le_of_ble_eq_true rfl) (fun X h hQ hnm => ?_)
  have h : Fx X w cX3_become 2 RX3 1 := h
  have hQ : Qx X w none none (fun σ' => (vw (vb m) σ' = lkP μ μ2) ∧ (∀ a, (a < vb m + 48 ∨ vb m + 208 ≤ a) → σ' a = σ a)) := hQ
  have hcFR_σ : ∀ a, (a < vb m + 48 ∨ vb m + 208 ≤ a) → σ a = σ a := fun _ _ => rfl
  show G X w 2 0 [(0, .ref (w.1 (mc m 4))), (1, .ref (w.1 (mc m2 4)))] [] σ
  refine g_aload_n h dX3_become_0 1 rfl ?_
  refine g_getr h dX3_become_1 gX3_9 (sM_4 (m := m2) (by omega)) rfl ?_
  refine g_iconst h dX3_become_4 (by decide) ?_
  refine g_aload_n h dX3_become_5 0 rfl ?_
  refine g_getr h dX3_become_6 gX3_9 (sM_4 (m := m) (by omega)) rfl ?_
  refine g_iconst h dX3_become_9 (by decide) ?_
  refine g_bipush h dX3_become_10 (by decide) ?_
  refine g_copy (σ' := cp σ (vb m + 80) (vb m2 + 80) 64) 0 (by decide) h mX3_36 (by decide) (sM_5 (m := m2) (by omega)) (sM_5 (m := m) (by omega)) (by omega) (by omega) (fun h9 => absurd h9 (by decide)) rfl dX3_become_12 (cp_h1 (fun k => (Nat.add_assoc _ _ _).symm) (fun k => (Nat.add_assoc _ _ _).symm)) (cp_h2 (fun k => (Nat.add_assoc _ _ _).symm) (by omega)) ?_
  refine g_nm (fun σ_1 eσ_1 => ?_)
  have eσ_1_f : ∀ a, (a < (vb m + 80) ∨ (vb m + 80) + 64 ≤ a) → σ_1 a = σ a := fun a ha => by rw [eσ_1]; exact cp_out ha
  have hcFR_σ_1 : ∀ a, (a < vb m + 48 ∨ vb m + 208 ≤ a) → σ_1 a = σ a := by intro a ha; exact Eq.trans (b := σ a) (eσ_1_f a (by first | omega | (simp only [vb] at *; omega))) (hcFR_σ a ha)
  obtain ⟨μ_2, eμ_2⟩ : ∃ μ_2 : Nat → Int32, μ_2 = cpP μ μ2 80 64 := ⟨_, rfl⟩
  have hvσ_1 : vw (vb m) σ_1 = μ_2 := by rw [eσ_1, eμ_2]; exact vw_cp (by first | exact hv | assumption) (by first | exact hw | assumption) (by omega)
  have hwσ_1 : vw (vb m2) σ_1 = μ2 := by rw [vw_fr (σ := σ) (fun j _ _ => eσ_1_f _ (by first | omega | (simp only [vb] at *; omega)))]; first | exact hw | assumption
  refine g_aload_n h dX3_become_15 1 rfl ?_
  refine g_getr h dX3_become_16 gX3_15 (sM_4 (m := m2) (by omega)) rfl ?_
  refine g_iconst h dX3_become_19 (by decide) ?_
  refine g_aload_n h dX3_become_20 0 rfl ?_
  refine g_getr h dX3_become_21 gX3_15 (sM_4 (m := m) (by omega)) rfl ?_
  refine g_iconst h dX3_become_24 (by decide) ?_
  refine g_bipush h dX3_become_25 (by decide) ?_
  refine g_copy (σ' := cp σ_1 (vb m + 144) (vb m2 + 144) 64) 0 (by decide) h mX3_36 (by decide) (sM_6 (m := m2) (by omega)) (sM_6 (m := m) (by omega)) (by omega) (by omega) (fun h9 => absurd h9 (by decide)) rfl dX3_become_27 (cp_h1 (fun k => (Nat.add_assoc _ _ _).symm) (fun k => (Nat.add_assoc _ _ _).symm)) (cp_h2 (fun k => (Nat.add_assoc _ _ _).symm) (by omega)) ?_
  refine g_nm (fun σ_3 eσ_3 => ?_)
  have eσ_3_f : ∀ a, (a < (vb m + 144) ∨ (vb m + 144) + 64 ≤ a) → σ_3 a = σ_1 a := fun a ha => by rw [eσ_3]; exact cp_out ha
  have hcFR_σ_3 : ∀ a, (a < vb m + 48 ∨ vb m + 208 ≤ a) → σ_3 a = σ a := by intro a ha; exact Eq.trans (b := σ_1 a) (eσ_3_f a (by first | omega | (simp only [vb] at *; omega))) (hcFR_σ_1 a ha)
  obtain ⟨μ_4, eμ_4⟩ : ∃ μ_4 : Nat → Int32, μ_4 = cpP μ_2 μ2 144 64 := ⟨_, rfl⟩
  have hvσ_3 : vw (vb m) σ_3 = μ_4 := by rw [eσ_3, eμ_4]; exact vw_cp (by first | exact hvσ_1 | assumption) (by first | exact hwσ_1 | assumption) (by omega)
  have hwσ_3 : vw (vb m2) σ_3 = μ2 := by rw [vw_fr (σ := σ_1) (fun j _ _ => eσ_3_f _ (by first | omega | (simp only [vb] at *; omega)))]; first | exact hwσ_1 | assumption
  refine g_aload_n h dX3_become_30 1 rfl ?_
  refine g_getr h dX3_become_31 gX3_18 (sM_4 (m := m2) (by omega)) rfl ?_
  refine g_iconst h dX3_become_34 (by decide) ?_
  refine g_aload_n h dX3_become_35 0 rfl ?_
  refine g_getr h dX3_become_36 gX3_18 (sM_4 (m := m) (by omega)) rfl ?_
  refine g_iconst h dX3_become_39 (by decide) ?_
  refine g_bipush h dX3_become_40 (by decide) ?_
  refine g_copy (σ' := cp σ_3 (vb m + 56) (vb m2 + 56) 8) 0 (by decide) h mX3_36 (by decide) (sM_7 (m := m2) (by omega)) (sM_7 (m := m) (by omega)) (by omega) (by omega) (fun h9 => absurd h9 (by decide)) rfl dX3_become_42 (cp_h1 (fun k => (Nat.add_assoc _ _ _).symm) (fun k => (Nat.add_assoc _ _ _).symm)) (cp_h2 (fun k => (Nat.add_assoc _ _ _).symm) (by omega)) ?_
  refine g_nm (fun σ_5 eσ_5 => ?_)
  have eσ_5_f : ∀ a, (a < (vb m + 56) ∨ (vb m + 56) + 8 ≤ a) → σ_5 a = σ_3 a := fun a ha => by rw [eσ_5]; exact cp_out ha
  have hcFR_σ_5 : ∀ a, (a < vb m + 48 ∨ vb m + 208 ≤ a) → σ_5 a = σ a := by intro a ha; exact Eq.trans (b := σ_3 a) (eσ_5_f a (by first | omega | (simp only [vb] at *; omega))) (hcFR_σ_3 a ha)
  obtain ⟨μ_6, eμ_6⟩ : ∃ μ_6 : Nat → Int32, μ_6 = cpP μ_4 μ2 56 8 := ⟨_, rfl⟩
  have hvσ_5 : vw (vb m) σ_5 = μ_6 := by rw [eσ_5, eμ_6]; exact vw_cp (by first | exact hvσ_3 | assumption) (by first | exact hwσ_3 | assumption) (by omega)
  have hwσ_5 : vw (vb m2) σ_5 = μ2 := by rw [vw_fr (σ := σ_3) (fun j _ _ => eσ_5_f _ (by first | omega | (simp only [vb] at *; omega)))]; first | exact hwσ_3 | assumption
  refine g_aload_n h dX3_become_45 1 rfl ?_
  refine g_getr h dX3_become_46 gX3_21 (sM_4 (m := m2) (by omega)) rfl ?_
  refine g_iconst h dX3_become_49 (by decide) ?_
  refine g_aload_n h dX3_become_50 0 rfl ?_
  refine g_getr h dX3_become_51 gX3_21 (sM_4 (m := m) (by omega)) rfl ?_
  refine g_iconst h dX3_become_54 (by decide) ?_
  refine g_bipush h dX3_become_55 (by decide) ?_
  refine g_copy (σ' := cp σ_5 (vb m + 64) (vb m2 + 64) 8) 0 (by decide) h mX3_36 (by decide) (sM_8 (m := m2) (by omega)) (sM_8 (m := m) (by omega)) (by omega) (by omega) (fun h9 => absurd h9 (by decide)) rfl dX3_become_57 (cp_h1 (fun k => (Nat.add_assoc _ _ _).symm) (fun k => (Nat.add_assoc _ _ _).symm)) (cp_h2 (fun k => (Nat.add_assoc _ _ _).symm) (by omega)) ?_
  refine g_nm (fun σ_7 eσ_7 => ?_)
  have eσ_7_f : ∀ a, (a < (vb m + 64) ∨ (vb m + 64) + 8 ≤ a) → σ_7 a = σ_5 a := fun a ha => by rw [eσ_7]; exact cp_out ha
  have hcFR_σ_7 : ∀ a, (a < vb m + 48 ∨ vb m + 208 ≤ a) → σ_7 a = σ a := by intro a ha; exact Eq.trans (b := σ_5 a) (eσ_7_f a (by first | omega | (simp only [vb] at *; omega))) (hcFR_σ_5 a ha)
  obtain ⟨μ_8, eμ_8⟩ : ∃ μ_8 : Nat → Int32, μ_8 = cpP μ_6 μ2 64 8 := ⟨_, rfl⟩
  have hvσ_7 : vw (vb m) σ_7 = μ_8 := by rw [eσ_7, eμ_8]; exact vw_cp (by first | exact hvσ_5 | assumption) (by first | exact hwσ_5 | assumption) (by omega)
  have hwσ_7 : vw (vb m2) σ_7 = μ2 := by rw [vw_fr (σ := σ_5) (fun j _ _ => eσ_7_f _ (by first | omega | (simp only [vb] at *; omega)))]; first | exact hwσ_5 | assumption
  refine g_aload_n h dX3_become_60 1 rfl ?_
  refine g_getr h dX3_become_61 gX3_24 (sM_4 (m := m2) (by omega)) rfl ?_
  refine g_iconst h dX3_become_64 (by decide) ?_
  refine g_aload_n h dX3_become_65 0 rfl ?_
  refine g_getr h dX3_become_66 gX3_24 (sM_4 (m := m) (by omega)) rfl ?_
  refine g_iconst h dX3_become_69 (by decide) ?_
  refine g_bipush h dX3_become_70 (by decide) ?_
  refine g_copy (σ' := cp σ_7 (vb m + 72) (vb m2 + 72) 8) 0 (by decide) h mX3_36 (by decide) (sM_9 (m := m2) (by omega)) (sM_9 (m := m) (by omega)) (by omega) (by omega) (fun h9 => absurd h9 (by decide)) rfl dX3_become_72 (cp_h1 (fun k => (Nat.add_assoc _ _ _).symm) (fun k => (Nat.add_assoc _ _ _).symm)) (cp_h2 (fun k => (Nat.add_assoc _ _ _).symm) (by omega)) ?_
  refine g_nm (fun σ_9 eσ_9 => ?_)
  have eσ_9_f : ∀ a, (a < (vb m + 72) ∨ (vb m + 72) + 8 ≤ a) → σ_9 a = σ_7 a := fun a ha => by rw [eσ_9]; exact cp_out ha
  have hcFR_σ_9 : ∀ a, (a < vb m + 48 ∨ vb m + 208 ≤ a) → σ_9 a = σ a := by intro a ha; exact Eq.trans (b := σ_7 a) (eσ_9_f a (by first | omega | (simp only [vb] at *; omega))) (hcFR_σ_7 a ha)
  obtain ⟨μ_10, eμ_10⟩ : ∃ μ_10 : Nat → Int32, μ_10 = cpP μ_8 μ2 72 8 := ⟨_, rfl⟩
  have hvσ_9 : vw (vb m) σ_9 = μ_10 := by rw [eσ_9, eμ_10]; exact vw_cp (by first | exact hvσ_7 | assumption) (by first | exact hwσ_7 | assumption) (by omega)
  have hwσ_9 : vw (vb m2) σ_9 = μ2 := by rw [vw_fr (σ := σ_7) (fun j _ _ => eσ_9_f _ (by first | omega | (simp only [vb] at *; omega)))]; first | exact hwσ_7 | assumption
  refine g_aload_n h dX3_become_75 1 rfl ?_
  refine g_getr h dX3_become_76 gX3_27 (sM_4 (m := m2) (by omega)) rfl ?_
  refine g_iconst h dX3_become_79 (by decide) ?_
  refine g_aload_n h dX3_become_80 0 rfl ?_
  refine g_getr h dX3_become_81 gX3_27 (sM_4 (m := m) (by omega)) rfl ?_
  refine g_iconst h dX3_become_84 (by decide) ?_
  refine g_bipush h dX3_become_85 (by decide) ?_
  refine g_copy (σ' := cp σ_9 (vb m + 48) (vb m2 + 48) 8) 0 (by decide) h mX3_36 (by decide) (sM_10 (m := m2) (by omega)) (sM_10 (m := m) (by omega)) (by omega) (by omega) (fun h9 => absurd h9 (by decide)) rfl dX3_become_87 (cp_h1 (fun k => (Nat.add_assoc _ _ _).symm) (fun k => (Nat.add_assoc _ _ _).symm)) (cp_h2 (fun k => (Nat.add_assoc _ _ _).symm) (by omega)) ?_
  refine g_nm (fun σ_11 eσ_11 => ?_)
  have eσ_11_f : ∀ a, (a < (vb m + 48) ∨ (vb m + 48) + 8 ≤ a) → σ_11 a = σ_9 a := fun a ha => by rw [eσ_11]; exact cp_out ha
  have hcFR_σ_11 : ∀ a, (a < vb m + 48 ∨ vb m + 208 ≤ a) → σ_11 a = σ a := by intro a ha; exact Eq.trans (b := σ_9 a) (eσ_11_f a (by first | omega | (simp only [vb] at *; omega))) (hcFR_σ_9 a ha)
  obtain ⟨μ_12, eμ_12⟩ : ∃ μ_12 : Nat → Int32, μ_12 = cpP μ_10 μ2 48 8 := ⟨_, rfl⟩
  have hvσ_11 : vw (vb m) σ_11 = μ_12 := by rw [eσ_11, eμ_12]; exact vw_cp (by first | exact hvσ_9 | assumption) (by first | exact hwσ_9 | assumption) (by omega)
  have hwσ_11 : vw (vb m2) σ_11 = μ2 := by rw [vw_fr (σ := σ_9) (fun j _ _ => eσ_11_f _ (by first | omega | (simp only [vb] at *; omega)))]; first | exact hwσ_9 | assumption
  exact g_vret h hQ dX3_become_90 rfl (by exact ⟨(by rw [hvσ_11]; funext a; simp only [eμ_12, eμ_10, eμ_8, eμ_6, eμ_4, eμ_2, cpP, upd, lkP]; (repeat' split); all_goals (first | rfl | omega | (subst_vars; rfl) | (exfalso; omega))), (by exact hcFR_σ_11)⟩)

set_option maxRecDepth 100000 in
set_option maxHeartbeats 16000000 in
theorem c_nwBecome {l : Launch} {w : Wd} (hW : Wi w) {σ : Mem} (nt : Nat) (g : Nat → Nat → Int32) (m m2 : Nat) (μ μ2 : Nat → Int32) (hm : m < 6) (hm2 : m2 < 6) (hne : m ≠ m2) (hv : vw (vb m) σ = μ) (hw : vw (vb m2) σ = μ2) (hcLD_σ : LC (vb m2) σ nt g) : MC l w qX6_become 1 [.ref (w.1 (mc m 11)), .ref (w.1 (mc m2 11))] σ none (fun σ' => (vw (vb m) σ' = nwP μ μ2) ∧ (LC (vb m2) σ' nt g) ∧ (LC (vb m) σ' nt g) ∧ (∀ a, ((a < vb m + 7 ∨ vb m + 10 ≤ a) ∧ (a < vb m + 32 ∨ vb m + 48 ≤ a) ∧ (a < vb m + 272 ∨ vb m + 528 ≤ a)) → σ' a = σ a)) := by
  refine MC.of hW (by decide +kernel) (Nat.le_of_ble_eq_true rfl) (fun X h hQ hnm => ?_)
  have h : Fx X w cX6_become 2 RX6 1 := h
  have hQ : Qx X w none none (fun σ' => (vw (vb m) σ' = nwP μ μ2) ∧ (LC (vb m2) σ' nt g) ∧ (LC (vb m) σ' nt g) ∧ (∀ a, ((a < vb m + 7 ∨ vb m + 10 ≤ a) ∧ (a < vb m + 32 ∨ vb m + 48 ≤ a) ∧ (a < vb m + 272 ∨ vb m + 528 ≤ a)) → σ' a = σ a)) := hQ
  have hcFR_σ : ∀ a, ((a < vb m + 7 ∨ vb m + 10 ≤ a) ∧ (a < vb m + 32 ∨ vb m + 48 ≤ a) ∧ (a < vb m + 272 ∨ vb m + 528 ≤ a)) → σ a = σ a := fun _ _ => rfl
  show G X w 2 0 [(0, .ref (w.1 (mc m 11))), (1, .ref (w.1 (mc m2 11)))] [] σ
  refine g_aload_n h dX6_become_0 1 rfl ?_
  refine g_getr h dX6_become_1 gX6_9 (sM_11 (m := m2) (by omega)) rfl ?_
  refine g_iconst h dX6_become_4 (by decide) ?_
  refine g_aload_n h dX6_become_5 0 rfl ?_
  refine g_getr h dX6_become_6 gX6_9 (sM_11 (m := m) (by omega)) rfl ?_
  refine g_iconst h dX6_become_9 (by decide) ?_
  refine g_bipush h dX6_become_10 (by decide) ?_
  refine g_copy (σ' := cp σ (vb m + 272) (vb m2 + 272) 64) 0 (by decide) h mX6_46 (by decide) (sM_12 (m := m2) (by omega)) (sM_12 (m := m) (by omega)) (by omega) (by omega) (fun h9 => absurd h9 (by decide)) rfl dX6_become_12 (cp_h1 (fun k => (Nat.add_assoc _ _ _).symm) (fun k => (Nat.add_assoc _ _ _).symm)) (cp_h2 (fun k => (Nat.add_assoc _ _ _).symm) (by omega)) ?_
  refine g_nm (fun σ_1 eσ_1 => ?_)
  have eσ_1_f : ∀ a, (a < (vb m + 272) ∨ (vb m + 272) + 64 ≤ a) → σ_1 a = σ a := fun a ha => by rw [eσ_1]; exact cp_out ha
  have hcLD_σ_1 : LC (vb m2) σ_1 nt g := by exact LC.fr hcLD_σ (fun a ha hb => eσ_1_f a (by first | omega | (simp only [vb] at *; omega)))
  have hcFR_σ_1 : ∀ a, ((a < vb m + 7 ∨ vb m + 10 ≤ a) ∧ (a < vb m + 32 ∨ vb m + 48 ≤ a) ∧ (a < vb m + 272 ∨ vb m + 528 ≤ a)) → σ_1 a = σ a := by intro a ha; exact Eq.trans (b := σ a) (eσ_1_f a (by first | omega | (simp only [vb] at *; omega))) (hcFR_σ a ha)
  obtain ⟨μ_2, eμ_2⟩ : ∃ μ_2 : Nat → Int32, μ_2 = cpP μ μ2 272 64 := ⟨_, rfl⟩
  have hvσ_1 : vw (vb m) σ_1 = μ_2 := by rw [eσ_1, eμ_2]; exact vw_cp (by first | exact hv | assumption) (by first | exact hw | assumption) (by omega)
  have hwσ_1 : vw (vb m2) σ_1 = μ2 := by rw [vw_fr (σ := σ) (fun j _ _ => eσ_1_f _ (by first | omega | (simp only [vb] at *; omega)))]; first | exact hw | assumption
  refine g_aload_n h dX6_become_15 1 rfl ?_
  refine g_getr h dX6_become_16 gX6_15 (sM_11 (m := m2) (by omega)) rfl ?_
  refine g_iconst h dX6_become_19 (by decide) ?_
  refine g_aload_n h dX6_become_20 0 rfl ?_
  refine g_getr h dX6_become_21 gX6_15 (sM_11 (m := m) (by omega)) rfl ?_
  refine g_iconst h dX6_become_24 (by decide) ?_
  refine g_bipush h dX6_become_25 (by decide) ?_
  refine g_copy (σ' := cp σ_1 (vb m + 336) (vb m2 + 336) 64) 0 (by decide) h mX6_46 (by decide) (sM_13 (m := m2) (by omega)) (sM_13 (m := m) (by omega)) (by omega) (by omega) (fun h9 => absurd h9 (by decide)) rfl dX6_become_27 (cp_h1 (fun k => (Nat.add_assoc _ _ _).symm) (fun k => (Nat.add_assoc _ _ _).symm)) (cp_h2 (fun k => (Nat.add_assoc _ _ _).symm) (by omega)) ?_
  refine g_nm (fun σ_3 eσ_3 => ?_)
  have eσ_3_f : ∀ a, (a < (vb m + 336) ∨ (vb m + 336) + 64 ≤ a) → σ_3 a = σ_1 a := fun a ha => by rw [eσ_3]; exact cp_out ha
  have hcLD_σ_3 : LC (vb m2) σ_3 nt g := by exact LC.fr hcLD_σ_1 (fun a ha hb => eσ_3_f a (by first | omega | (simp only [vb] at *; omega)))
  have hcFR_σ_3 : ∀ a, ((a < vb m + 7 ∨ vb m + 10 ≤ a) ∧ (a < vb m + 32 ∨ vb m + 48 ≤ a) ∧ (a < vb m + 272 ∨ vb m + 528 ≤ a)) → σ_3 a = σ a := by intro a ha; exact Eq.trans (b := σ_1 a) (eσ_3_f a (by first | omega | (simp only [vb] at *; omega))) (hcFR_σ_1 a ha)
  obtain ⟨μ_4, eμ_4⟩ : ∃ μ_4 : Nat → Int32, μ_4 = cpP μ_2 μ2 336 64 := ⟨_, rfl⟩
  have hvσ_3 : vw (vb m) σ_3 = μ_4 := by rw [eσ_3, eμ_4]; exact vw_cp (by first | exact hvσ_1 | assumption) (by first | exact hwσ_1 | assumption) (by omega)
  have hwσ_3 : vw (vb m2) σ_3 = μ2 := by rw [vw_fr (σ := σ_1) (fun j _ _ => eσ_3_f _ (by first | omega | (simp only [vb] at *; omega)))]; first | exact hwσ_1 | assumption
  refine g_aload_n h dX6_become_30 1 rfl ?_
  refine g_getr h dX6_become_31 gX6_18 (sM_11 (m := m2) (by omega)) rfl ?_
  refine g_iconst h dX6_become_34 (by decide) ?_
  refine g_aload_n h dX6_become_35 0 rfl ?_
  refine g_getr h dX6_become_36 gX6_18 (sM_11 (m := m) (by omega)) rfl ?_
  refine g_iconst h dX6_become_39 (by decide) ?_
  refine g_bipush h dX6_become_40 (by decide) ?_
  refine g_copy (σ' := cp σ_3 (vb m + 400) (vb m2 + 400) 64) 0 (by decide) h mX6_46 (by decide) (sM_14 (m := m2) (by omega)) (sM_14 (m := m) (by omega)) (by omega) (by omega) (fun h9 => absurd h9 (by decide)) rfl dX6_become_42 (cp_h1 (fun k => (Nat.add_assoc _ _ _).symm) (fun k => (Nat.add_assoc _ _ _).symm)) (cp_h2 (fun k => (Nat.add_assoc _ _ _).symm) (by omega)) ?_
  refine g_nm (fun σ_5 eσ_5 => ?_)
  have eσ_5_f : ∀ a, (a < (vb m + 400) ∨ (vb m + 400) + 64 ≤ a) → σ_5 a = σ_3 a := fun a ha => by rw [eσ_5]; exact cp_out ha
  have hcLD_σ_5 : LC (vb m2) σ_5 nt g := by exact LC.fr hcLD_σ_3 (fun a ha hb => eσ_5_f a (by first | omega | (simp only [vb] at *; omega)))
  have hcFR_σ_5 : ∀ a, ((a < vb m + 7 ∨ vb m + 10 ≤ a) ∧ (a < vb m + 32 ∨ vb m + 48 ≤ a) ∧ (a < vb m + 272 ∨ vb m + 528 ≤ a)) → σ_5 a = σ a := by intro a ha; exact Eq.trans (b := σ_3 a) (eσ_5_f a (by first | omega | (simp only [vb] at *; omega))) (hcFR_σ_3 a ha)
  obtain ⟨μ_6, eμ_6⟩ : ∃ μ_6 : Nat → Int32, μ_6 = cpP μ_4 μ2 400 64 := ⟨_, rfl⟩
  have hvσ_5 : vw (vb m) σ_5 = μ_6 := by rw [eσ_5, eμ_6]; exact vw_cp (by first | exact hvσ_3 | assumption) (by first | exact hwσ_3 | assumption) (by omega)
  have hwσ_5 : vw (vb m2) σ_5 = μ2 := by rw [vw_fr (σ := σ_3) (fun j _ _ => eσ_5_f _ (by first | omega | (simp only [vb] at *; omega)))]; first | exact hwσ_3 | assumption
  refine g_aload_n h dX6_become_45 1 rfl ?_
  refine g_getr h dX6_become_46 gX6_21 (sM_11 (m := m2) (by omega)) rfl ?_
  refine g_iconst h dX6_become_49 (by decide) ?_
  refine g_aload_n h dX6_become_50 0 rfl ?_
  refine g_getr h dX6_become_51 gX6_21 (sM_11 (m := m) (by omega)) rfl ?_
  refine g_iconst h dX6_become_54 (by decide) ?_
  refine g_bipush h dX6_become_55 (by decide) ?_
  refine g_copy (σ' := cp σ_5 (vb m + 32) (vb m2 + 32) 8) 0 (by decide) h mX6_46 (by decide) (sM_15 (m := m2) (by omega)) (sM_15 (m := m) (by omega)) (by omega) (by omega) (fun h9 => absurd h9 (by decide)) rfl dX6_become_57 (cp_h1 (fun k => (Nat.add_assoc _ _ _).symm) (fun k => (Nat.add_assoc _ _ _).symm)) (cp_h2 (fun k => (Nat.add_assoc _ _ _).symm) (by omega)) ?_
  refine g_nm (fun σ_7 eσ_7 => ?_)
  have eσ_7_f : ∀ a, (a < (vb m + 32) ∨ (vb m + 32) + 8 ≤ a) → σ_7 a = σ_5 a := fun a ha => by rw [eσ_7]; exact cp_out ha
  have hcLD_σ_7 : LC (vb m2) σ_7 nt g := by exact LC.fr hcLD_σ_5 (fun a ha hb => eσ_7_f a (by first | omega | (simp only [vb] at *; omega)))
  have hcFR_σ_7 : ∀ a, ((a < vb m + 7 ∨ vb m + 10 ≤ a) ∧ (a < vb m + 32 ∨ vb m + 48 ≤ a) ∧ (a < vb m + 272 ∨ vb m + 528 ≤ a)) → σ_7 a = σ a := by intro a ha; exact Eq.trans (b := σ_5 a) (eσ_7_f a (by first | omega | (simp only [vb] at *; omega))) (hcFR_σ_5 a ha)
  obtain ⟨μ_8, eμ_8⟩ : ∃ μ_8 : Nat → Int32, μ_8 = cpP μ_6 μ2 32 8 := ⟨_, rfl⟩
  have hvσ_7 : vw (vb m) σ_7 = μ_8 := by rw [eσ_7, eμ_8]; exact vw_cp (by first | exact hvσ_5 | assumption) (by first | exact hwσ_5 | assumption) (by omega)
  have hwσ_7 : vw (vb m2) σ_7 = μ2 := by rw [vw_fr (σ := σ_5) (fun j _ _ => eσ_7_f _ (by first | omega | (simp only [vb] at *; omega)))]; first | exact hwσ_5 | assumption
  refine g_aload_n h dX6_become_60 1 rfl ?_
  refine g_getr h dX6_become_61 gX6_24 (sM_11 (m := m2) (by omega)) rfl ?_
  refine g_iconst h dX6_become_64 (by decide) ?_
  refine g_aload_n h dX6_become_65 0 rfl ?_
  refine g_getr h dX6_become_66 gX6_24 (sM_11 (m := m) (by omega)) rfl ?_
  refine g_iconst h dX6_become_69 (by decide) ?_
  refine g_bipush h dX6_become_70 (by decide) ?_
  refine g_copy (σ' := cp σ_7 (vb m + 40) (vb m2 + 40) 8) 0 (by decide) h mX6_46 (by decide) (sM_16 (m := m2) (by omega)) (sM_16 (m := m) (by omega)) (by omega) (by omega) (fun h9 => absurd h9 (by decide)) rfl dX6_become_72 (cp_h1 (fun k => (Nat.add_assoc _ _ _).symm) (fun k => (Nat.add_assoc _ _ _).symm)) (cp_h2 (fun k => (Nat.add_assoc _ _ _).symm) (by omega)) ?_
  refine g_nm (fun σp eσp => ?_)
  have eσp_f : ∀ a, (a < (vb m + 40) ∨ (vb m + 40) + 8 ≤ a) → σp a = σ_7 a := fun a ha => by rw [eσp]; exact cp_out ha
  have hcLD_σp : LC (vb m2) σp nt g := by exact LC.fr hcLD_σ_7 (fun a ha hb => eσp_f a (by first | omega | (simp only [vb] at *; omega)))
  have hcFR_σp : ∀ a, ((a < vb m + 7 ∨ vb m + 10 ≤ a) ∧ (a < vb m + 32 ∨ vb m + 48 ≤ a) ∧ (a < vb m + 272 ∨ vb m + 528 ≤ a)) → σp a = σ a := by intro a ha; exact Eq.trans (b := σ_7 a) (eσp_f a (by first | omega | (simp only [vb] at *; omega))) (hcFR_σ_7 a ha)
  obtain ⟨μ_9, eμ_9⟩ : ∃ μ_9 : Nat → Int32, μ_9 = cpP μ_8 μ2 40 8 := ⟨_, rfl⟩
  have hvσp : vw (vb m) σp = μ_9 := by rw [eσp, eμ_9]; exact vw_cp (by first | exact hvσ_7 | assumption) (by first | exact hwσ_7 | assumption) (by omega)
  have hwσp : vw (vb m2) σp = μ2 := by rw [vw_fr (σ := σ_7) (fun j _ _ => eσp_f _ (by first | omega | (simp only [vb] at *; omega)))]; first | exact hwσ_7 | assumption
  refine g_aload_n h dX6_become_75 1 rfl ?_
  refine g_getr h dX6_become_76 gX6_27 (sM_11 (m := m2) (by omega)) rfl ?_
  refine g_iconst h dX6_become_79 (by decide) ?_
  refine g_aload_n h dX6_become_80 0 rfl ?_
  refine g_getr h dX6_become_81 gX6_27 (sM_11 (m := m) (by omega)) rfl ?_
  refine g_iconst h dX6_become_84 (by decide) ?_
  refine g_bipush h dX6_become_85 (by decide) ?_
  refine g_copy (σ' := cp σp (vb m + 464) (vb m2 + 464) 64) 0 (by decide) h mX6_46 (by decide) (sM_17 (m := m2) (by omega)) (sM_17 (m := m) (by omega)) (by omega) (by omega) (fun h9 => absurd h9 (by decide)) rfl dX6_become_87 (cp_h1 (fun k => (Nat.add_assoc _ _ _).symm) (fun k => (Nat.add_assoc _ _ _).symm)) (cp_h2 (fun k => (Nat.add_assoc _ _ _).symm) (by omega)) ?_
  refine g_nm (fun σq eσq => ?_)
  have eσq_f : ∀ a, (a < (vb m + 464) ∨ (vb m + 464) + 64 ≤ a) → σq a = σp a := fun a ha => by rw [eσq]; exact cp_out ha
  have hcLD_σq : LC (vb m2) σq nt g := by exact LC.fr hcLD_σp (fun a ha hb => eσq_f a (by first | omega | (simp only [vb] at *; omega)))
  have hcFR_σq : ∀ a, ((a < vb m + 7 ∨ vb m + 10 ≤ a) ∧ (a < vb m + 32 ∨ vb m + 48 ≤ a) ∧ (a < vb m + 272 ∨ vb m + 528 ≤ a)) → σq a = σ a := by intro a ha; exact Eq.trans (b := σp a) (eσq_f a (by first | omega | (simp only [vb] at *; omega))) (hcFR_σp a ha)
  have hvσq : vw (vb m) σq = μ_9 := by rw [vw_fr (σ := σp) (fun j _ _ => eσq_f _ (by first | omega | (simp only [vb] at *; omega)))]; first | exact hvσp | assumption
  have hwσq : vw (vb m2) σq = μ2 := by rw [vw_fr (σ := σp) (fun j _ _ => eσq_f _ (by first | omega | (simp only [vb] at *; omega)))]; first | exact hwσp | assumption
  have hcLC_σq : LC (vb m) σq nt g := by rw [eσq]; exact lc_cp hcLD_σp
  refine g_aload_n h dX6_become_90 0 rfl ?_
  refine g_aload_n h dX6_become_91 1 rfl ?_
  refine g_geti h dX6_become_92 gX6_36 (sM_11 (m := m2) (by omega)) rfl ?_
  refine g_top (y := μ2 7) (vw_pic (b := (vb m2)) (k := 7) (by first | exact hwσq | assumption) (by omega)) ?_
  refine g_puti h dX6_become_95 pX6_36 (sM_11 (m := m) (by omega)) rfl ?_
  refine g_nm (fun σ_10 eσ_10 => ?_)
  have eσ_10 : σ_10 = upd σq ((vb m) + 7) (μ2 7) := eσ_10
  have hcLD_σ_10 : LC (vb m2) σ_10 nt g := by rw [eσ_10]; exact LC.fr hcLD_σq (fun a ha hb => upd_ne (by first | omega | (simp only [vb] at *; omega)))
  have hcFR_σ_10 : ∀ a, ((a < vb m + 7 ∨ vb m + 10 ≤ a) ∧ (a < vb m + 32 ∨ vb m + 48 ≤ a) ∧ (a < vb m + 272 ∨ vb m + 528 ≤ a)) → σ_10 a = σ a := by intro a ha; exact Eq.trans (b := σq a) (by rw [eσ_10, upd_ne (by first | omega | (simp only [vb] at *; omega))]) (hcFR_σq a ha)
  have hcLC_σ_10 : LC (vb m) σ_10 nt g := by rw [eσ_10]; exact LC.fr hcLC_σq (fun a ha hb => upd_ne (by first | omega | (simp only [vb] at *; omega)))
  obtain ⟨μ_11, eμ_11⟩ : ∃ μ_11 : Nat → Int32, μ_11 = upd μ_9 7 (μ2 7) := ⟨_, rfl⟩
  have hvσ_10 : vw (vb m) σ_10 = μ_11 := by rw [eσ_10, eμ_11, vw_in (by omega)]; congr 1
  have hwσ_10 : vw (vb m2) σ_10 = μ2 := by rw [eσ_10, vw_out (by first | omega | (simp only [vb] at *; omega))]; first | exact hwσq | assumption
  refine g_aload_n h dX6_become_98 0 rfl ?_
  refine g_aload_n h dX6_become_99 1 rfl ?_
  refine g_geti h dX6_become_100 gX6_40 (sM_11 (m := m2) (by omega)) rfl ?_
  refine g_top (y := μ2 8) (vw_pic (b := (vb m2)) (k := 8) (by first | exact hwσ_10 | assumption) (by omega)) ?_
  refine g_puti h dX6_become_103 pX6_40 (sM_11 (m := m) (by omega)) rfl ?_
  refine g_nm (fun σ_12 eσ_12 => ?_)
  have eσ_12 : σ_12 = upd σ_10 ((vb m) + 8) (μ2 8) := eσ_12
  have hcLD_σ_12 : LC (vb m2) σ_12 nt g := by rw [eσ_12]; exact LC.fr hcLD_σ_10 (fun a ha hb => upd_ne (by first | omega | (simp only [vb] at *; omega)))
  have hcFR_σ_12 : ∀ a, ((a < vb m + 7 ∨ vb m + 10 ≤ a) ∧ (a < vb m + 32 ∨ vb m + 48 ≤ a) ∧ (a < vb m + 272 ∨ vb m + 528 ≤ a)) → σ_12 a = σ a := by intro a ha; exact Eq.trans (b := σ_10 a) (by rw [eσ_12, upd_ne (by first | omega | (simp only [vb] at *; omega))]) (hcFR_σ_10 a ha)
  have hcLC_σ_12 : LC (vb m) σ_12 nt g := by rw [eσ_12]; exact LC.fr hcLC_σ_10 (fun a ha hb => upd_ne (by first | omega | (simp only [vb] at *; omega)))
  obtain ⟨μ_13, eμ_13⟩ : ∃ μ_13 : Nat → Int32, μ_13 = upd μ_11 8 (μ2 8) := ⟨_, rfl⟩
  have hvσ_12 : vw (vb m) σ_12 = μ_13 := by rw [eσ_12, eμ_13, vw_in (by omega)]; congr 1
  have hwσ_12 : vw (vb m2) σ_12 = μ2 := by rw [eσ_12, vw_out (by first | omega | (simp only [vb] at *; omega))]; first | exact hwσ_10 | assumption
  refine g_aload_n h dX6_become_106 0 rfl ?_
  refine g_aload_n h dX6_become_107 1 rfl ?_
  refine g_geti h dX6_become_108 gX6_43 (sM_11 (m := m2) (by omega)) rfl ?_
  refine g_top (y := μ2 9) (vw_pic (b := (vb m2)) (k := 9) (by first | exact hwσ_12 | assumption) (by omega)) ?_
  refine g_puti h dX6_become_111 pX6_43 (sM_11 (m := m) (by omega)) rfl ?_
  refine g_nm (fun σ_14 eσ_14 => ?_)
  have eσ_14 : σ_14 = upd σ_12 ((vb m) + 9) (μ2 9) := eσ_14
  have hcLD_σ_14 : LC (vb m2) σ_14 nt g := by rw [eσ_14]; exact LC.fr hcLD_σ_12 (fun a ha hb => upd_ne (by first | omega | (simp only [vb] at *; omega)))
  have hcFR_σ_14 : ∀ a, ((a < vb m + 7 ∨ vb m + 10 ≤ a) ∧ (a < vb m + 32 ∨ vb m + 48 ≤ a) ∧ (a < vb m + 272 ∨ vb m + 528 ≤ a)) → σ_14 a = σ a := by intro a ha; exact Eq.trans (b := σ_12 a) (by rw [eσ_14, upd_ne (by first | omega | (simp only [vb] at *; omega))]) (hcFR_σ_12 a ha)
  have hcLC_σ_14 : LC (vb m) σ_14 nt g := by rw [eσ_14]; exact LC.fr hcLC_σ_12 (fun a ha hb => upd_ne (by first | omega | (simp only [vb] at *; omega)))
  obtain ⟨μ_15, eμ_15⟩ : ∃ μ_15 : Nat → Int32, μ_15 = upd μ_13 9 (μ2 9) := ⟨_, rfl⟩
  have hvσ_14 : vw (vb m) σ_14 = μ_15 := by rw [eσ_14, eμ_15, vw_in (by omega)]; congr 1
  have hwσ_14 : vw (vb m2) σ_14 = μ2 := by rw [eσ_14, vw_out (by first | omega | (simp only [vb] at *; omega))]; first | exact hwσ_12 | assumption
  exact g_vret h hQ dX6_become_114 rfl (by exact ⟨(by rw [hvσ_14]; funext a; simp only [eμ_15, eμ_13, eμ_11, eμ_9, eμ_8, eμ_6, eμ_4, eμ_2, cpP, upd, nwP]; (repeat' split); all_goals (first | rfl | omega | (subst_vars; rfl) | (exfalso; omega))), (by first | exact hcLD_σ_14 | assumption | fail), (by first | exact hcLC_σ_14 | assumption | fail), (by exact hcFR_σ_14)⟩)

theorem cpP_in {μ ν : Nat → Int32} {c L a : Nat} (h : c ≤ a ∧ a < c + L) : cpP μ ν c L a = ν a := by unfold cpP; rw [if_pos h]
theorem cpP_out {μ ν : Nat → Int32} {c L a : Nat} (h : a < c ∨ c + L ≤ a) : cpP μ ν c L a = μ a := by unfold cpP; rw [if_neg (by omega)]
theorem lkP_in {μ ν : Nat → Int32} {a : Nat} (h : 48 ≤ a ∧ a < 208) : lkP μ ν a = ν a := by unfold lkP; rw [if_pos h]
theorem lkP_out {μ ν : Nat → Int32} {a : Nat} (h : a < 48 ∨ 208 ≤ a) : lkP μ ν a = μ a := by unfold lkP; rw [if_neg (by omega)]
theorem nwP_in {μ ν : Nat → Int32} {a : Nat} (h : (7 ≤ a ∧ a < 10) ∨ (32 ≤ a ∧ a < 48) ∨ (272 ≤ a ∧ a < 464)) : nwP μ ν a = ν a := by unfold nwP; rw [if_pos h]
theorem nwP_out {μ ν : Nat → Int32} {a : Nat} (h : a < 7 ∨ (10 ≤ a ∧ a < 32) ∨ (48 ≤ a ∧ a < 272) ∨ 464 ≤ a) : nwP μ ν a = μ a := by unfold nwP; rw [if_neg (by omega)]
theorem bgP_0 {a : Nat} (h : a < 3 ∨ 6 < a) : bgP a = nI 0 := by unfold bgP; rw [if_neg (by omega), if_neg (by omega), if_neg (by omega), if_neg (by omega)]
theorem bgP_3 : bgP 3 = nI 2 := rfl
theorem bgP_4 : bgP 4 = nI 6 := rfl
theorem bgP_5 : bgP 5 = nI 700 := rfl
theorem bgP_6 : bgP 6 = nI 300 := rfl
theorem be_all {b b2 : Nat} {σ σ2 : Mem} {μ μ2 ν : Nat → Int32} (h1 : vw b σ = μ) (h2 : vw b2 σ2 = μ2) (hz : ∀ a, 11 ≤ a → a < 16 → μ a = μ2 a) (h : ∀ a, a < 464 → a ≠ 10 → (a < 11 ∨ 16 ≤ a) → ν a = μ2 a) (ho : ∀ a, (464 ≤ a ∨ a = 10 ∨ (11 ≤ a ∧ a < 16)) → ν a = μ a) : ν = μ2 := by
  funext a
  by_cases c : a < 464 ∧ a ≠ 10 ∧ (a < 11 ∨ 16 ≤ a)
  · exact h a c.1 c.2.1 c.2.2
  · rw [ho a (by omega)]
    by_cases d : 464 ≤ a ∨ a = 10
    · rw [vw_z h1 d, vw_z h2 d]
    · exact hz a (by omega) (by omega)

set_option maxRecDepth 100000 in
set_option maxHeartbeats 16000000 in
theorem c_become {l : Launch} {w : Wd} (hW : Wi w) {σ : Mem} (nt : Nat) (g : Nat → Nat → Int32) (m m2 : Nat) (μ μ2 : Nat → Int32) (hm : m < 6) (hm2 : m2 < 6) (hne : m ≠ m2) (hv : vw (vb m) σ = μ) (hw : vw (vb m2) σ = μ2) (hz : ∀ a, 11 ≤ a → a < 16 → μ a = μ2 a) (hcLD_σ : LC (vb m2) σ nt g) : MC l w qX5_become 2 [.ref (w.1 (mc m 0)), .ref (w.1 (mc m2 0))] σ none (fun σ' => (vw (vb m) σ' = μ2) ∧ (LC (vb m2) σ' nt g) ∧ (LC (vb m) σ' nt g) ∧ (∀ a, (a < vb m ∨ vb m + 528 ≤ a) → σ' a = σ a)) := by
  refine MC.of hW (by decide +kernel) (Nat.le_of_ble_eq_true rfl) (fun X h hQ hnm => ?_)
  have h : Fx X w cX5_become 2 RX5 2 := h
  have hQ : Qx X w none none (fun σ' => (vw (vb m) σ' = μ2) ∧ (LC (vb m2) σ' nt g) ∧ (LC (vb m) σ' nt g) ∧ (∀ a, (a < vb m ∨ vb m + 528 ≤ a) → σ' a = σ a)) := hQ
  have hvb1 : vb m = 10000 + 528 * m := rfl
  have hvb2 : vb m2 = 10000 + 528 * m2 := rfl
  have hcFR_σ : ∀ a, (a < vb m ∨ vb m + 528 ≤ a) → σ a = σ a := fun _ _ => rfl
  show G X w 2 0 [(0, .ref (w.1 (mc m 0))), (1, .ref (w.1 (mc m2 0)))] [] σ
  refine g_aload_n h dX5_become_0 0 rfl ?_
  refine g_aload_n h dX5_become_1 1 rfl ?_
  refine g_geti h dX5_become_2 gX5_38 (sM_0 (m := m2) (by omega)) rfl ?_
  refine g_top (y := μ2 0) (vw_pic (b := (vb m2)) (k := 0) (by first | exact hw | assumption) (by omega)) ?_
  refine g_puti h dX5_become_5 pX5_38 (sM_0 (m := m) (by omega)) rfl ?_
  refine g_nm (fun σ_1 eσ_1 => ?_)
  have eσ_1 : σ_1 = upd σ ((vb m) + 0) (μ2 0) := eσ_1
  have hcLD_σ_1 : LC (vb m2) σ_1 nt g := by rw [eσ_1]; exact LC.fr hcLD_σ (fun a ha hb => upd_ne (by first | omega | (simp only [vb] at *; omega)))
  have hcFR_σ_1 : ∀ a, (a < vb m ∨ vb m + 528 ≤ a) → σ_1 a = σ a := by intro a ha; exact Eq.trans (b := σ a) (by rw [eσ_1, upd_ne (by first | omega | (simp only [vb] at *; omega))]) (hcFR_σ a ha)
  obtain ⟨μ_2, eμ_2⟩ : ∃ μ_2 : Nat → Int32, μ_2 = upd μ 0 (μ2 0) := ⟨_, rfl⟩
  have hvσ_1 : vw (vb m) σ_1 = μ_2 := by rw [eσ_1, eμ_2, vw_in (by omega)]; congr 1
  have hwσ_1 : vw (vb m2) σ_1 = μ2 := by rw [eσ_1, vw_out (by first | omega | (simp only [vb] at *; omega))]; first | exact hw | assumption
  refine g_aload_n h dX5_become_8 0 rfl ?_
  refine g_aload_n h dX5_become_9 1 rfl ?_
  refine g_geti h dX5_become_10 gX5_42 (sM_0 (m := m2) (by omega)) rfl ?_
  refine g_top (y := μ2 1) (vw_pic (b := (vb m2)) (k := 1) (by first | exact hwσ_1 | assumption) (by omega)) ?_
  refine g_puti h dX5_become_13 pX5_42 (sM_0 (m := m) (by omega)) rfl ?_
  refine g_nm (fun σ_3 eσ_3 => ?_)
  have eσ_3 : σ_3 = upd σ_1 ((vb m) + 1) (μ2 1) := eσ_3
  have hcLD_σ_3 : LC (vb m2) σ_3 nt g := by rw [eσ_3]; exact LC.fr hcLD_σ_1 (fun a ha hb => upd_ne (by first | omega | (simp only [vb] at *; omega)))
  have hcFR_σ_3 : ∀ a, (a < vb m ∨ vb m + 528 ≤ a) → σ_3 a = σ a := by intro a ha; exact Eq.trans (b := σ_1 a) (by rw [eσ_3, upd_ne (by first | omega | (simp only [vb] at *; omega))]) (hcFR_σ_1 a ha)
  obtain ⟨μ_4, eμ_4⟩ : ∃ μ_4 : Nat → Int32, μ_4 = upd μ_2 1 (μ2 1) := ⟨_, rfl⟩
  have hvσ_3 : vw (vb m) σ_3 = μ_4 := by rw [eσ_3, eμ_4, vw_in (by omega)]; congr 1
  have hwσ_3 : vw (vb m2) σ_3 = μ2 := by rw [eσ_3, vw_out (by first | omega | (simp only [vb] at *; omega))]; first | exact hwσ_1 | assumption
  refine g_aload_n h dX5_become_16 0 rfl ?_
  refine g_aload_n h dX5_become_17 1 rfl ?_
  refine g_geti h dX5_become_18 gX5_45 (sM_0 (m := m2) (by omega)) rfl ?_
  refine g_top (y := μ2 2) (vw_pic (b := (vb m2)) (k := 2) (by first | exact hwσ_3 | assumption) (by omega)) ?_
  refine g_puti h dX5_become_21 pX5_45 (sM_0 (m := m) (by omega)) rfl ?_
  refine g_nm (fun σ_5 eσ_5 => ?_)
  have eσ_5 : σ_5 = upd σ_3 ((vb m) + 2) (μ2 2) := eσ_5
  have hcLD_σ_5 : LC (vb m2) σ_5 nt g := by rw [eσ_5]; exact LC.fr hcLD_σ_3 (fun a ha hb => upd_ne (by first | omega | (simp only [vb] at *; omega)))
  have hcFR_σ_5 : ∀ a, (a < vb m ∨ vb m + 528 ≤ a) → σ_5 a = σ a := by intro a ha; exact Eq.trans (b := σ_3 a) (by rw [eσ_5, upd_ne (by first | omega | (simp only [vb] at *; omega))]) (hcFR_σ_3 a ha)
  obtain ⟨μ_6, eμ_6⟩ : ∃ μ_6 : Nat → Int32, μ_6 = upd μ_4 2 (μ2 2) := ⟨_, rfl⟩
  have hvσ_5 : vw (vb m) σ_5 = μ_6 := by rw [eσ_5, eμ_6, vw_in (by omega)]; congr 1
  have hwσ_5 : vw (vb m2) σ_5 = μ2 := by rw [eσ_5, vw_out (by first | omega | (simp only [vb] at *; omega))]; first | exact hwσ_3 | assumption
  refine g_aload_n h dX5_become_24 0 rfl ?_
  refine g_aload_n h dX5_become_25 1 rfl ?_
  refine g_geti h dX5_become_26 gX5_48 (sM_0 (m := m2) (by omega)) rfl ?_
  refine g_top (y := μ2 3) (vw_pic (b := (vb m2)) (k := 3) (by first | exact hwσ_5 | assumption) (by omega)) ?_
  refine g_puti h dX5_become_29 pX5_48 (sM_0 (m := m) (by omega)) rfl ?_
  refine g_nm (fun σ_7 eσ_7 => ?_)
  have eσ_7 : σ_7 = upd σ_5 ((vb m) + 3) (μ2 3) := eσ_7
  have hcLD_σ_7 : LC (vb m2) σ_7 nt g := by rw [eσ_7]; exact LC.fr hcLD_σ_5 (fun a ha hb => upd_ne (by first | omega | (simp only [vb] at *; omega)))
  have hcFR_σ_7 : ∀ a, (a < vb m ∨ vb m + 528 ≤ a) → σ_7 a = σ a := by intro a ha; exact Eq.trans (b := σ_5 a) (by rw [eσ_7, upd_ne (by first | omega | (simp only [vb] at *; omega))]) (hcFR_σ_5 a ha)
  obtain ⟨μ_8, eμ_8⟩ : ∃ μ_8 : Nat → Int32, μ_8 = upd μ_6 3 (μ2 3) := ⟨_, rfl⟩
  have hvσ_7 : vw (vb m) σ_7 = μ_8 := by rw [eσ_7, eμ_8, vw_in (by omega)]; congr 1
  have hwσ_7 : vw (vb m2) σ_7 = μ2 := by rw [eσ_7, vw_out (by first | omega | (simp only [vb] at *; omega))]; first | exact hwσ_5 | assumption
  refine g_aload_n h dX5_become_32 0 rfl ?_
  refine g_aload_n h dX5_become_33 1 rfl ?_
  refine g_geti h dX5_become_34 gX5_51 (sM_0 (m := m2) (by omega)) rfl ?_
  refine g_top (y := μ2 4) (vw_pic (b := (vb m2)) (k := 4) (by first | exact hwσ_7 | assumption) (by omega)) ?_
  refine g_puti h dX5_become_37 pX5_51 (sM_0 (m := m) (by omega)) rfl ?_
  refine g_nm (fun σ_9 eσ_9 => ?_)
  have eσ_9 : σ_9 = upd σ_7 ((vb m) + 4) (μ2 4) := eσ_9
  have hcLD_σ_9 : LC (vb m2) σ_9 nt g := by rw [eσ_9]; exact LC.fr hcLD_σ_7 (fun a ha hb => upd_ne (by first | omega | (simp only [vb] at *; omega)))
  have hcFR_σ_9 : ∀ a, (a < vb m ∨ vb m + 528 ≤ a) → σ_9 a = σ a := by intro a ha; exact Eq.trans (b := σ_7 a) (by rw [eσ_9, upd_ne (by first | omega | (simp only [vb] at *; omega))]) (hcFR_σ_7 a ha)
  obtain ⟨μ_10, eμ_10⟩ : ∃ μ_10 : Nat → Int32, μ_10 = upd μ_8 4 (μ2 4) := ⟨_, rfl⟩
  have hvσ_9 : vw (vb m) σ_9 = μ_10 := by rw [eσ_9, eμ_10, vw_in (by omega)]; congr 1
  have hwσ_9 : vw (vb m2) σ_9 = μ2 := by rw [eσ_9, vw_out (by first | omega | (simp only [vb] at *; omega))]; first | exact hwσ_7 | assumption
  refine g_aload_n h dX5_become_40 0 rfl ?_
  refine g_aload_n h dX5_become_41 1 rfl ?_
  refine g_geti h dX5_become_42 gX5_54 (sM_0 (m := m2) (by omega)) rfl ?_
  refine g_top (y := μ2 5) (vw_pic (b := (vb m2)) (k := 5) (by first | exact hwσ_9 | assumption) (by omega)) ?_
  refine g_puti h dX5_become_45 pX5_54 (sM_0 (m := m) (by omega)) rfl ?_
  refine g_nm (fun σ_11 eσ_11 => ?_)
  have eσ_11 : σ_11 = upd σ_9 ((vb m) + 5) (μ2 5) := eσ_11
  have hcLD_σ_11 : LC (vb m2) σ_11 nt g := by rw [eσ_11]; exact LC.fr hcLD_σ_9 (fun a ha hb => upd_ne (by first | omega | (simp only [vb] at *; omega)))
  have hcFR_σ_11 : ∀ a, (a < vb m ∨ vb m + 528 ≤ a) → σ_11 a = σ a := by intro a ha; exact Eq.trans (b := σ_9 a) (by rw [eσ_11, upd_ne (by first | omega | (simp only [vb] at *; omega))]) (hcFR_σ_9 a ha)
  obtain ⟨μ_12, eμ_12⟩ : ∃ μ_12 : Nat → Int32, μ_12 = upd μ_10 5 (μ2 5) := ⟨_, rfl⟩
  have hvσ_11 : vw (vb m) σ_11 = μ_12 := by rw [eσ_11, eμ_12, vw_in (by omega)]; congr 1
  have hwσ_11 : vw (vb m2) σ_11 = μ2 := by rw [eσ_11, vw_out (by first | omega | (simp only [vb] at *; omega))]; first | exact hwσ_9 | assumption
  refine g_aload_n h dX5_become_48 0 rfl ?_
  refine g_aload_n h dX5_become_49 1 rfl ?_
  refine g_geti h dX5_become_50 gX5_57 (sM_0 (m := m2) (by omega)) rfl ?_
  refine g_top (y := μ2 6) (vw_pic (b := (vb m2)) (k := 6) (by first | exact hwσ_11 | assumption) (by omega)) ?_
  refine g_puti h dX5_become_53 pX5_57 (sM_0 (m := m) (by omega)) rfl ?_
  refine g_nm (fun σ_13 eσ_13 => ?_)
  have eσ_13 : σ_13 = upd σ_11 ((vb m) + 6) (μ2 6) := eσ_13
  have hcLD_σ_13 : LC (vb m2) σ_13 nt g := by rw [eσ_13]; exact LC.fr hcLD_σ_11 (fun a ha hb => upd_ne (by first | omega | (simp only [vb] at *; omega)))
  have hcFR_σ_13 : ∀ a, (a < vb m ∨ vb m + 528 ≤ a) → σ_13 a = σ a := by intro a ha; exact Eq.trans (b := σ_11 a) (by rw [eσ_13, upd_ne (by first | omega | (simp only [vb] at *; omega))]) (hcFR_σ_11 a ha)
  obtain ⟨μ_14, eμ_14⟩ : ∃ μ_14 : Nat → Int32, μ_14 = upd μ_12 6 (μ2 6) := ⟨_, rfl⟩
  have hvσ_13 : vw (vb m) σ_13 = μ_14 := by rw [eσ_13, eμ_14, vw_in (by omega)]; congr 1
  have hwσ_13 : vw (vb m2) σ_13 = μ2 := by rw [eσ_13, vw_out (by first | omega | (simp only [vb] at *; omega))]; first | exact hwσ_11 | assumption
  refine g_aload_n h dX5_become_56 1 rfl ?_
  refine g_getr h dX5_become_57 gX5_9 (sM_0 (m := m2) (by omega)) rfl ?_
  refine g_iconst h dX5_become_60 (by decide) ?_
  refine g_aload_n h dX5_become_61 0 rfl ?_
  refine g_getr h dX5_become_62 gX5_9 (sM_0 (m := m) (by omega)) rfl ?_
  refine g_iconst h dX5_become_65 (by decide) ?_
  refine g_bipush h dX5_become_66 (by decide) ?_
  refine g_copy (σ' := cp σ_13 (vb m + 16) (vb m2 + 16) 8) 0 (by decide) h mX5_68 (by decide) (sM_1 (m := m2) (by omega)) (sM_1 (m := m) (by omega)) (by omega) (by omega) (fun h9 => absurd h9 (by decide)) rfl dX5_become_68 (cp_h1 (fun k => (Nat.add_assoc _ _ _).symm) (fun k => (Nat.add_assoc _ _ _).symm)) (cp_h2 (fun k => (Nat.add_assoc _ _ _).symm) (by omega)) ?_
  refine g_nm (fun σ_15 eσ_15 => ?_)
  have eσ_15_f : ∀ a, (a < (vb m + 16) ∨ (vb m + 16) + 8 ≤ a) → σ_15 a = σ_13 a := fun a ha => by rw [eσ_15]; exact cp_out ha
  have hcLD_σ_15 : LC (vb m2) σ_15 nt g := by exact LC.fr hcLD_σ_13 (fun a ha hb => eσ_15_f a (by first | omega | (simp only [vb] at *; omega)))
  have hcFR_σ_15 : ∀ a, (a < vb m ∨ vb m + 528 ≤ a) → σ_15 a = σ a := by intro a ha; exact Eq.trans (b := σ_13 a) (eσ_15_f a (by first | omega | (simp only [vb] at *; omega))) (hcFR_σ_13 a ha)
  obtain ⟨μ_16, eμ_16⟩ : ∃ μ_16 : Nat → Int32, μ_16 = cpP μ_14 μ2 16 8 := ⟨_, rfl⟩
  have hvσ_15 : vw (vb m) σ_15 = μ_16 := by rw [eσ_15, eμ_16]; exact vw_cp (by first | exact hvσ_13 | assumption) (by first | exact hwσ_13 | assumption) (by omega)
  have hwσ_15 : vw (vb m2) σ_15 = μ2 := by rw [vw_fr (σ := σ_13) (fun j _ _ => eσ_15_f _ (by first | omega | (simp only [vb] at *; omega)))]; first | exact hwσ_13 | assumption
  refine g_aload_n h dX5_become_71 1 rfl ?_
  refine g_getr h dX5_become_72 gX5_15 (sM_0 (m := m2) (by omega)) rfl ?_
  refine g_iconst h dX5_become_75 (by decide) ?_
  refine g_aload_n h dX5_become_76 0 rfl ?_
  refine g_getr h dX5_become_77 gX5_15 (sM_0 (m := m) (by omega)) rfl ?_
  refine g_iconst h dX5_become_80 (by decide) ?_
  refine g_bipush h dX5_become_81 (by decide) ?_
  refine g_copy (σ' := cp σ_15 (vb m + 24) (vb m2 + 24) 8) 0 (by decide) h mX5_68 (by decide) (sM_2 (m := m2) (by omega)) (sM_2 (m := m) (by omega)) (by omega) (by omega) (fun h9 => absurd h9 (by decide)) rfl dX5_become_83 (cp_h1 (fun k => (Nat.add_assoc _ _ _).symm) (fun k => (Nat.add_assoc _ _ _).symm)) (cp_h2 (fun k => (Nat.add_assoc _ _ _).symm) (by omega)) ?_
  refine g_nm (fun σ_17 eσ_17 => ?_)
  have eσ_17_f : ∀ a, (a < (vb m + 24) ∨ (vb m + 24) + 8 ≤ a) → σ_17 a = σ_15 a := fun a ha => by rw [eσ_17]; exact cp_out ha
  have hcLD_σ_17 : LC (vb m2) σ_17 nt g := by exact LC.fr hcLD_σ_15 (fun a ha hb => eσ_17_f a (by first | omega | (simp only [vb] at *; omega)))
  have hcFR_σ_17 : ∀ a, (a < vb m ∨ vb m + 528 ≤ a) → σ_17 a = σ a := by intro a ha; exact Eq.trans (b := σ_15 a) (eσ_17_f a (by first | omega | (simp only [vb] at *; omega))) (hcFR_σ_15 a ha)
  obtain ⟨μ_18, eμ_18⟩ : ∃ μ_18 : Nat → Int32, μ_18 = cpP μ_16 μ2 24 8 := ⟨_, rfl⟩
  have hvσ_17 : vw (vb m) σ_17 = μ_18 := by rw [eσ_17, eμ_18]; exact vw_cp (by first | exact hvσ_15 | assumption) (by first | exact hwσ_15 | assumption) (by omega)
  have hwσ_17 : vw (vb m2) σ_17 = μ2 := by rw [vw_fr (σ := σ_15) (fun j _ _ => eσ_17_f _ (by first | omega | (simp only [vb] at *; omega)))]; first | exact hwσ_15 | assumption
  refine g_aload_n h dX5_become_86 1 rfl ?_
  refine g_getr h dX5_become_87 gX5_18 (sM_0 (m := m2) (by omega)) rfl ?_
  refine g_iconst h dX5_become_90 (by decide) ?_
  refine g_aload_n h dX5_become_91 0 rfl ?_
  refine g_getr h dX5_become_92 gX5_18 (sM_0 (m := m) (by omega)) rfl ?_
  refine g_iconst h dX5_become_95 (by decide) ?_
  refine g_bipush h dX5_become_96 (by decide) ?_
  refine g_copy (σ' := cp σ_17 (vb m + 208) (vb m2 + 208) 64) 0 (by decide) h mX5_68 (by decide) (sM_3 (m := m2) (by omega)) (sM_3 (m := m) (by omega)) (by omega) (by omega) (fun h9 => absurd h9 (by decide)) rfl dX5_become_98 cp_t1 cp_t2 ?_
  refine g_nm (fun σ_19 eσ_19 => ?_)
  have eσ_19_f : ∀ a, (a < (vb m + 208) ∨ (vb m + 208) + 64 ≤ a) → σ_19 a = σ_17 a := fun a ha => by rw [eσ_19]; exact cp_out ha
  have hcLD_σ_19 : LC (vb m2) σ_19 nt g := by exact LC.fr hcLD_σ_17 (fun a ha hb => eσ_19_f a (by first | omega | (simp only [vb] at *; omega)))
  have hcFR_σ_19 : ∀ a, (a < vb m ∨ vb m + 528 ≤ a) → σ_19 a = σ a := by intro a ha; exact Eq.trans (b := σ_17 a) (eσ_19_f a (by first | omega | (simp only [vb] at *; omega))) (hcFR_σ_17 a ha)
  obtain ⟨μ_20, eμ_20⟩ : ∃ μ_20 : Nat → Int32, μ_20 = cpP μ_18 μ2 208 64 := ⟨_, rfl⟩
  have hvσ_19 : vw (vb m) σ_19 = μ_20 := by rw [eσ_19, eμ_20]; exact vw_cp (by first | exact hvσ_17 | assumption) (by first | exact hwσ_17 | assumption) (by omega)
  have hwσ_19 : vw (vb m2) σ_19 = μ2 := by rw [vw_fr (σ := σ_17) (fun j _ _ => eσ_19_f _ (by first | omega | (simp only [vb] at *; omega)))]; first | exact hwσ_17 | assumption
  refine g_aload_n h dX5_become_101 0 rfl ?_
  refine g_getr h dX5_become_102 gX5_24 (sM_0 (m := m) (by omega)) rfl ?_
  refine g_aload_n h dX5_become_105 1 rfl ?_
  refine g_getr h dX5_become_106 gX5_24 (sM_0 (m := m2) (by omega)) rfl ?_
  refine g_cvv (rest := []) h (c_lkBecome hW m m2 μ_20 μ2 (by first | omega | decide | fail) (by first | omega | decide | fail) (by first | omega | decide | fail) (by first | exact hvσ_19 | assumption | fail) (by first | exact w | assumption | fail)) lX3_become mX5_74 (Nat.lt_of_lt_of_le (by decide) (Nat.le_refl _)) (by decide) (sM_4 (m := m) (by omega)) rfl rfl rfl rfl dX5_become_109 (fun σ_21 eσ_21 => ?_)
  obtain ⟨eσ_21_a, eσ_21_b⟩ := eσ_21
  have eσ_21_a : vw (vb m) σ_21 = lkP μ_20 μ2 := eσ_21_a
  have eσ_21_b : ∀ a, (a < vb m + 48 ∨ vb m + 208 ≤ a) → σ_21 a = σ_19 a := eσ_21_b
  have hcLD_σ_21 : LC (vb m2) σ_21 nt g := by exact LC.fr hcLD_σ_19 (fun a ha hb => eσ_21_b a (by first | omega | (simp only [vb] at *; omega)))
  have hcFR_σ_21 : ∀ a, (a < vb m ∨ vb m + 528 ≤ a) → σ_21 a = σ a := by intro a ha; exact Eq.trans (b := σ_19 a) (eσ_21_b a (by first | omega | (simp only [vb] at *; omega))) (hcFR_σ_19 a ha)
  obtain ⟨μ_22, eμ_22⟩ : ∃ μ_22 : Nat → Int32, μ_22 = lkP μ_20 μ2 := ⟨_, rfl⟩
  have hvσ_21 : vw (vb m) σ_21 = μ_22 := by rw [eμ_22]; exact eσ_21_a
  have hwσ_21 : vw (vb m2) σ_21 = μ2 := by rw [vw_fr (σ := σ_19) (fun j _ _ => eσ_21_b _ (by first | omega | (simp only [vb] at *; omega)))]; first | exact hwσ_19 | assumption
  refine g_aload_n h dX5_become_112 0 rfl ?_
  refine g_getr h dX5_become_113 gX5_31 (sM_0 (m := m) (by omega)) rfl ?_
  refine g_aload_n h dX5_become_116 1 rfl ?_
  refine g_getr h dX5_become_117 gX5_31 (sM_0 (m := m2) (by omega)) rfl ?_
  refine g_cvv (rest := []) h (c_nwBecome hW nt g m m2 μ_22 μ2 (by first | omega | decide | fail) (by first | omega | decide | fail) (by first | omega | decide | fail) (by first | exact hvσ_21 | assumption | fail) (by first | exact w | assumption | fail) (by first | exact hcLD_σ_21 | assumption | fail)) lX6_become mX5_78 (Nat.lt_of_lt_of_le (by decide) (Nat.le_refl _)) (by decide) (sM_11 (m := m) (by omega)) rfl rfl rfl rfl dX5_become_120 (fun σ_23 eσ_23 => ?_)
  obtain ⟨eσ_23_a, eσ_23_b, eσ_23_c, eσ_23_d⟩ := eσ_23
  have eσ_23_a : vw (vb m) σ_23 = nwP μ_22 μ2 := eσ_23_a
  have eσ_23_b : LC (vb m2) σ_23 nt g := eσ_23_b
  have eσ_23_c : LC (vb m) σ_23 nt g := eσ_23_c
  have eσ_23_d : ∀ a, ((a < vb m + 7 ∨ vb m + 10 ≤ a) ∧ (a < vb m + 32 ∨ vb m + 48 ≤ a) ∧ (a < vb m + 272 ∨ vb m + 528 ≤ a)) → σ_23 a = σ_21 a := eσ_23_d
  have hcLD_σ_23 : LC (vb m2) σ_23 nt g := eσ_23_b
  have hcFR_σ_23 : ∀ a, (a < vb m ∨ vb m + 528 ≤ a) → σ_23 a = σ a := by intro a ha; exact Eq.trans (b := σ_21 a) (eσ_23_d a (by first | omega | (simp only [vb] at *; omega))) (hcFR_σ_21 a ha)
  have hcLC_σ_23 : LC (vb m) σ_23 nt g := eσ_23_c
  obtain ⟨μ_24, eμ_24⟩ : ∃ μ_24 : Nat → Int32, μ_24 = nwP μ_22 μ2 := ⟨_, rfl⟩
  have hvσ_23 : vw (vb m) σ_23 = μ_24 := by rw [eμ_24]; exact eσ_23_a
  have hwσ_23 : vw (vb m2) σ_23 = μ2 := by rw [vw_fr (σ := σ_21) (fun j _ _ => eσ_23_d _ (by first | omega | (simp only [vb] at *; omega)))]; first | exact hwσ_21 | assumption
  exact g_vret h hQ dX5_become_123 rfl (by exact ⟨(by rw [hvσ_23]; exact be_all hv hw hz (by intro a h1 h2 h3; rcases (show a = 0 ∨ a = 1 ∨ a = 2 ∨ a = 3 ∨ a = 4 ∨ a = 5 ∨ a = 6 ∨ (7 ≤ a ∧ a < 10) ∨ (16 ≤ a ∧ a < 24) ∨ (24 ≤ a ∧ a < 32) ∨ (32 ≤ a ∧ a < 48) ∨ (48 ≤ a ∧ a < 208) ∨ (208 ≤ a ∧ a < 272) ∨ (272 ≤ a ∧ a < 464) by omega) with rfl | rfl | rfl | rfl | rfl | rfl | rfl | q9 | q9 | q9 | q9 | q9 | q9 | q9 <;> simp (disch := omega) only [eμ_24, eμ_22, eμ_20, eμ_18, eμ_16, eμ_14, eμ_12, eμ_10, eμ_8, eμ_6, eμ_4, eμ_2, cpP_in, cpP_out, lkP_in, lkP_out, nwP_in, nwP_out, upd_ne, upd_eq, bgP_0, bgP_3, bgP_4, bgP_5, bgP_6]) (by intro a h1; simp (disch := omega) only [eμ_24, eμ_22, eμ_20, eμ_18, eμ_16, eμ_14, eμ_12, eμ_10, eμ_8, eμ_6, eμ_4, eμ_2, cpP_in, cpP_out, lkP_in, lkP_out, nwP_in, nwP_out, upd_ne, upd_eq, bgP_0, bgP_3, bgP_4, bgP_5, bgP_6])), (by first | exact hcLD_σ_23 | assumption | fail), (by first | exact hcLC_σ_23 | assumption | fail), (by exact hcFR_σ_23)⟩)
/-! till all is told, on paper: settles, mends -/
def jz (μ : Nat → Int32) : Prop := ∀ a, 11 ≤ a → a < 16 → μ a = 0
theorem hl1_z {ls i j a : Nat} {μh : Nat → Int32} {s : TT} (ha : a < 16) : (hl1 ls μh i j s).1 a = s.1 a := by
  unfold hl1
  split
  · unfold hrS
    dsimp only
    repeat (first | rw [if_neg (by omega)] | rfl)
  · rfl
theorem hlJ_z {ls i a : Nat} {μh : Nat → Int32} {s : TT} (ha : a < 16) : ∀ n, (hlJ ls μh i s n).1 a = s.1 a
  | 0 => rfl
  | n + 1 => by rw [hlJ, hl1_z ha, hlJ_z ha n]
theorem hlI_z {ls N a : Nat} {μh : Nat → Int32} {s : TT} (ha : a < 16) : ∀ n, (hlI ls μh N s n).1 a = s.1 a
  | 0 => rfl
  | n + 1 => by rw [hlI, hlJ_z ha N, hlI_z ha n]
theorem tkF_z {ls a : Nat} {s : TT} (h : MI s.1) (h1 : 11 ≤ a) (h2 : a < 16) : (tkF ls s).1 a = s.1 a := by
  have h8 := mi_8 h
  obtain ⟨c1, c2⟩ := tkC_all (ls := ls) h
  have eC : (tkC ls s).1 a = s.1 a := by
    unfold tkC
    dsimp only
    rw [rl_fix (by omega) h8]
    unfold tkA
    rw [hlI_z h2]
    show upd s.1 2 (s.1 2 + nI 1) a = s.1 a
    exact upd_ne (by omega)
  have eD : (tkD ls s).1 a = s.1 a := by
    unfold tkD
    split
    · rw [(ntN_all (ls := ls) c1 (nN s.1) (by omega)).2.2 a (by omega) (by omega) (by omega)]
      exact eC
    · exact eC
  unfold tkF esP
  dsimp only
  rw [if_neg (by omega)]
  exact eD
