/-! the reference's tick -/
theorem rl_mik {μ : Nat → Int32} {k m : Nat} (h : MI μ) (hk : k ≤ 8) (hm : m ≤ 64) : MI (rlP μ k m) := by
  have h8 := mi_8 h
  have eN : nN (rlP μ k m) = nN μ := (rl_ck h hk).1
  refine mi_of (by rw [rl_fix (by omega) hk, eN]; exact mi_0 h) (by rw [eN]; exact h8) (by unfold nA; rw [rl_fix (by omega) hk, rl_fix (by omega) hk]; exact ml_6 h) fun a ha => ?_
  rw [eN]
  unfold rlP
  split
  · exact pw_set (by omega) (by omega) (by omega) (fun _ _ => sb_chos h)
  · split
    · rename_i c
      have e := mb_400 h (j := a - 400) (by omega)
      rw [show 400 + (a - 400) = a from by omega] at e
      refine pw_num (n := nA μ a - 1) ?_ (by omega) (fun h1 h2 h3 => ?_)
      · have := nb400 (j := a - 400) (by omega)
        rw [show 400 + (a - 400) = a from by omega] at this
        rw [this]
        omega
      · have h4 := ml_left h (i := (a - 400) / 8) (j := (a - 400) % 8) (by omega) h3 (by omega)
        rw [show 400 + (8 * ((a - 400) / 8) + (a - 400) % 8) = a from by omega] at h4
        rw [nA_nI (by decide) h4]
    · exact mi_pw h a
/-- how many notices there are -/
theorem nt_7 {ls node n : Nat} {s : TT} (h : MI s.1) (hn : node < nN s.1) (h7 : s.1 7 = nI n) : ∃ n', n' ≤ n + 1 ∧ (nt1 ls node s).1 7 = nI n' := by
  have h8 := mi_8 h
  unfold nt1
  split
  · rename_i c
    simp only [Bool.and_eq_true] at c
    refine ⟨n + 1, Nat.le_refl _, ?_⟩
    dsimp only
    rw [upd_ne (by omega), upd_eq, (FW.all (rn_mi h (by omega)) (by rw [rn_N (by omega)]; exact hn) (by rw [rn_fix (by omega) (by omega)]; exact c.1)).2.1 7 (by omega) (by omega), rn_fix (by omega) (by omega), h7]
    exact nI_p1.symm
  · exact ⟨n, by omega, h7⟩
theorem ntN_7 {ls n : Nat} {s : TT} (h : MI s.1) (h7 : s.1 7 = nI n) : ∀ k, k ≤ nN s.1 → ∃ n', n' ≤ n + k ∧ (ntN ls s k).1 7 = nI n'
  | 0, _ => ⟨n, by omega, h7⟩
  | k + 1, hk => by
    obtain ⟨n1, h1, h2⟩ := ntN_7 (ls := ls) h h7 k (by omega)
    obtain ⟨q1, q2, q3⟩ := ntN_all (ls := ls) h k (by omega)
    obtain ⟨n2, h3, h4⟩ := nt_7 (ls := ls) (node := k) q1 (by rw [q2]; omega) h2
    exact ⟨n2, by omega, h4⟩
theorem hl1_7 {ls i j : Nat} {μh : Nat → Int32} {s : TT} (hi : i < 8) (hj : j < 8) : (hl1 ls μh i j s).1 7 = s.1 7 := by
  unfold hl1
  split
  · unfold hrS
    dsimp only
    repeat (first | rw [if_neg (by omega)] | rfl)
  · rfl
theorem hlJ_7 {ls i : Nat} {μh : Nat → Int32} {s : TT} (hi : i < 8) : ∀ n, n ≤ 8 → (hlJ ls μh i s n).1 7 = s.1 7
  | 0, _ => rfl
  | n + 1, hn => by rw [hlJ, hl1_7 hi (by omega), hlJ_7 hi n (by omega)]
theorem hlI_7 {ls N : Nat} {μh : Nat → Int32} {s : TT} (hN : N ≤ 8) : ∀ n, n ≤ 8 → (hlI ls μh N s n).1 7 = s.1 7
  | 0, _ => rfl
  | n + 1, hn => by rw [hlI, hlJ_7 (by omega) N hN, hlI_7 hN n (by omega)]
theorem tkC_7 {ls : Nat} {s : TT} (h : MI s.1) : (tkC ls s).1 7 = s.1 7 := by
  have h8 := mi_8 h
  unfold tkC
  dsimp only
  rw [rl_fix (by omega) h8]
  unfold tkA
  rw [hlI_7 h8 _ h8]
  show upd s.1 2 (s.1 2 + nI 1) 7 = s.1 7
  exact upd_ne (by decide)
theorem tkF_7 {ls n : Nat} {s : TT} (h : MI s.1) (h7 : s.1 7 = nI n) : ∃ n', n' ≤ n + 8 ∧ (tkF ls s).1 7 = nI n' := by
  obtain ⟨h1, h2⟩ := tkC_all (ls := ls) h
  have h8 := mi_8 h
  have e7 : ∀ s : TT, (esP s.1 64) 7 = s.1 7 := fun s => by
    unfold esP
    rw [if_neg (by omega)]
  unfold tkF
  dsimp only
  rw [e7]
  unfold tkD
  split
  · obtain ⟨n1, q1, q2⟩ := ntN_7 (ls := ls) h1 ((tkC_7 h).trans h7) (nN s.1) (by omega)
    exact ⟨n1, by omega, q2⟩
  · exact ⟨n, by omega, (tkC_7 h).trans h7⟩
theorem mi_3ne {μ : Nat → Int32} (h : MI μ) : ¬ μ 3 = 0 := fun e => by
  have h1 := ml_3 h
  rw [nA_nI (n := 0) (by decide) e] at h1
  omega
/-! a part of an array goes into another one; the class's whole tick -/
def cp (σ : Mem) (D S L : Nat) : Mem := fun a => if D ≤ a ∧ a < D + L then σ (S + (a - D)) else σ a
theorem cp_h1 {f0 f1 : Nat → Nat} {σ : Mem} {D S L n1 : Nat} (h0 : ∀ k, f0 k = S + k) (h1 : ∀ k, f1 k = D + k) : ∀ k, k < n1 → cp σ D S L (f1 k) = if 0 ≤ k ∧ k < 0 + L then σ (f0 (0 + (k - 0))) else σ (f1 k) := fun k _ => by
  rw [h1, h0]
  unfold cp
  by_cases c : k < L
  · rw [if_pos (by omega), if_pos (by omega), show S + (D + k - D) = S + (0 + (k - 0)) from by omega]
  · rw [if_neg (by omega), if_neg (by omega)]
theorem cp_h2 {f1 : Nat → Nat} {σ : Mem} {D S L n1 : Nat} (h1 : ∀ k, f1 k = D + k) (hL : L ≤ n1) : ∀ v, (∀ k, k < n1 → v ≠ f1 k) → cp σ D S L v = σ v := fun v h => by
  unfold cp
  rw [if_neg]
  intro c
  exact h (v - D) (by omega) (by rw [h1]; omega)
theorem cp_t1 {σ : Mem} {m m2 : Nat} : ∀ k, k < 64 → cp σ (vb m + 208) (vb m2 + 208) 64 (vb m + (208 + tr k)) = if 0 ≤ k ∧ k < 0 + 64 then σ (vb m2 + (208 + tr (0 + (k - 0)))) else σ (vb m + (208 + tr k)) := fun k hk => by
  have := tr_lt hk
  unfold cp
  rw [if_pos (by omega), if_pos (by omega), show 0 + (k - 0) = k from by omega, show vb m2 + 208 + (vb m + (208 + tr k) - (vb m + 208)) = vb m2 + (208 + tr k) from by omega]
theorem cp_t2 {σ : Mem} {m m2 : Nat} : ∀ v, (∀ k, k < 64 → v ≠ vb m + (208 + tr k)) → cp σ (vb m + 208) (vb m2 + 208) 64 v = σ v := fun v h => by
  unfold cp
  rw [if_neg]
  intro c
  have := tr_lt (c := v - (vb m + 208)) (by omega)
  exact h (tr (v - (vb m + 208))) this (by rw [tr_tr (by omega)]; omega)
theorem cp_out {σ : Mem} {D S L a : Nat} (h : a < D ∨ D + L ≤ a) : cp σ D S L a = σ a := by
  unfold cp
  rw [if_neg (by omega)]
theorem cp_at {σ : Mem} {D S L k : Nat} (h : k < L) : cp σ D S L (D + k) = σ (S + k) := by
  unfold cp
  rw [if_pos (by omega), show S + (D + k - D) = S + k from by omega]
def cpP (μ ν : Nat → Int32) (c L : Nat) : Nat → Int32 := fun a => if c ≤ a ∧ a < c + L then ν a else μ a
theorem vw_cp {b1 b2 c L : Nat} {σ : Mem} {μ ν : Nat → Int32} (h1 : vw b1 σ = μ) (h2 : vw b2 σ = ν) (hc : 10 < c ∧ c + L ≤ 464) : vw b1 (cp σ (b1 + c) (b2 + c) L) = cpP μ ν c L := by
  subst h1
  subst h2
  funext a
  show (if a < 464 ∧ a ≠ 10 then cp σ (b1 + c) (b2 + c) L (b1 + a) else 0) = if c ≤ a ∧ a < c + L then vw b2 σ a else vw b1 σ a
  by_cases c1 : a < 464 ∧ a ≠ 10
  · rw [if_pos c1]
    by_cases c2 : c ≤ a ∧ a < c + L
    · rw [if_pos c2, show b1 + a = b1 + c + (a - c) from by omega, cp_at (by omega), show b2 + c + (a - c) = b2 + a from by omega]
      exact vw_at c1
    · rw [if_neg c2, cp_out (by omega)]
      exact vw_at c1
  · rw [if_neg c1, if_neg (by omega)]
    unfold vw
    rw [if_neg c1]
theorem ht_cp {m : Nat} {μ : Nat → Int32} {σ σ1 σ2 σ3 : Mem} (hm : m < 6) (hv : vw (vb m) σ = μ) (e1 : σ1 = cp σ 15110 (vb m + 56) 8) (e2 : σ2 = cp σ1 15120 (vb m + 64) 8) (e3 : σ3 = cp σ2 15130 (vb m + 48) 8) : HT 15110 μ σ3 := fun j hj => by
  have hb : vb m ≤ 12640 := by
    unfold vb
    omega
  refine ⟨?_, ?_, ?_⟩
  · rw [e3, cp_out (by omega), e2, cp_out (by omega), e1, cp_at hj, Nat.add_assoc]
    exact vw_pic hv (by omega)
  · rw [e3, cp_out (by omega), e2, show 15110 + 10 + j = 15120 + j from by omega, cp_at hj, e1, cp_out (by omega), Nat.add_assoc]
    exact vw_pic hv (by omega)
  · rw [e3, show 15110 + 20 + j = 15130 + j from by omega, cp_at hj, e2, cp_out (by omega), e1, cp_out (by omega), Nat.add_assoc]
    exact vw_pic hv (by omega)

set_option maxRecDepth 100000 in
set_option maxHeartbeats 4000000 in
theorem c_sayHellos {l : Launch} {w : Wd} (hW : Wi w) {σ : Mem} (m : Nat) (μ : Nat → Int32) (hm : m < 6) (hv : vw (vb m) σ = μ) : MC l w qX9_sayHellos 1 [.ref (w.1 19), .ref (w.1 (mc m 4))] σ none (fun σ' => (HT 15110 μ σ') ∧ (∀ a, (a < 15110 ∨ 15138 ≤ a) → σ' a = σ a)) := by
  refine MC.of hW (by decide +kernel) (Nat.le_of_ble_eq_true rfl) (fun X h hQ hnm => ?_)
  have h : Fx X w cX9_sayHellos 2 RX9 1 := h
  have hQ : Qx X w none none (fun σ' => (HT 15110 μ σ') ∧ (∀ a, (a < 15110 ∨ 15138 ≤ a) → σ' a = σ a)) := hQ
  have hcFR_σ : ∀ a, (a < 15110 ∨ 15138 ≤ a) → σ a = σ a := fun _ _ => rfl
  show G X w 2 0 [(0, .ref (w.1 19)), (1, .ref (w.1 (mc m 4)))] [] σ
  refine g_aload_n h dX9_sayHellos_0 1 rfl ?_
  refine g_getr h dX9_sayHellos_1 gX9_84 (sM_4 (m := m) (by omega)) rfl ?_
  refine g_iconst h dX9_sayHellos_4 (by decide) ?_
  refine g_aload_n h dX9_sayHellos_5 0 rfl ?_
  refine g_getr h dX9_sayHellos_6 gX9_19 sc_19 rfl ?_
  refine g_iconst h dX9_sayHellos_9 (by decide) ?_
  refine g_bipush h dX9_sayHellos_10 (by decide) ?_
  refine g_copy (σ' := cp σ 15110 (vb m + 56) 8) 0 (by decide) h mX9_87 (by decide) (sM_7 (m := m) (by omega)) sc_20 (by omega) (by omega) (fun h9 => absurd h9 (by decide)) rfl dX9_sayHellos_12 (cp_h1 (fun k => (Nat.add_assoc _ _ _).symm) (fun k => rfl)) (cp_h2 (fun k => rfl) (by omega)) ?_
  refine g_nm (fun σa eσa => ?_)
  have eσa_f : ∀ a, (a < 15110 ∨ 15110 + 8 ≤ a) → σa a = σ a := fun a ha => by rw [eσa]; exact cp_out ha
  have hcFR_σa : ∀ a, (a < 15110 ∨ 15138 ≤ a) → σa a = σ a := by intro a ha; exact Eq.trans (b := σ a) (eσa_f a (by first | omega | (simp only [vb] at *; omega))) (hcFR_σ a ha)
  have hvσa : vw (vb m) σa = μ := by rw [vw_fr (σ := σ) (fun j _ _ => eσa_f _ (by first | omega | (simp only [vb] at *; omega)))]; first | exact hv | assumption
  refine g_aload_n h dX9_sayHellos_15 1 rfl ?_
  refine g_getr h dX9_sayHellos_16 gX9_93 (sM_4 (m := m) (by omega)) rfl ?_
  refine g_iconst h dX9_sayHellos_19 (by decide) ?_
  refine g_aload_n h dX9_sayHellos_20 0 rfl ?_
  refine g_getr h dX9_sayHellos_21 gX9_23 sc_19 rfl ?_
  refine g_iconst h dX9_sayHellos_24 (by decide) ?_
  refine g_bipush h dX9_sayHellos_25 (by decide) ?_
  refine g_copy (σ' := cp σa 15120 (vb m + 64) 8) 0 (by decide) h mX9_87 (by decide) (sM_8 (m := m) (by omega)) sc_21 (by omega) (by omega) (fun h9 => absurd h9 (by decide)) rfl dX9_sayHellos_27 (cp_h1 (fun k => (Nat.add_assoc _ _ _).symm) (fun k => rfl)) (cp_h2 (fun k => rfl) (by omega)) ?_
  refine g_nm (fun σb eσb => ?_)
  have eσb_f : ∀ a, (a < 15120 ∨ 15120 + 8 ≤ a) → σb a = σa a := fun a ha => by rw [eσb]; exact cp_out ha
  have hcFR_σb : ∀ a, (a < 15110 ∨ 15138 ≤ a) → σb a = σ a := by intro a ha; exact Eq.trans (b := σa a) (eσb_f a (by first | omega | (simp only [vb] at *; omega))) (hcFR_σa a ha)
  have hvσb : vw (vb m) σb = μ := by rw [vw_fr (σ := σa) (fun j _ _ => eσb_f _ (by first | omega | (simp only [vb] at *; omega)))]; first | exact hvσa | assumption
  refine g_aload_n h dX9_sayHellos_30 1 rfl ?_
  refine g_getr h dX9_sayHellos_31 gX9_54 (sM_4 (m := m) (by omega)) rfl ?_
  refine g_iconst h dX9_sayHellos_34 (by decide) ?_
  refine g_aload_n h dX9_sayHellos_35 0 rfl ?_
  refine g_getr h dX9_sayHellos_36 gX9_26 sc_19 rfl ?_
  refine g_iconst h dX9_sayHellos_39 (by decide) ?_
  refine g_bipush h dX9_sayHellos_40 (by decide) ?_
  refine g_copy (σ' := cp σb 15130 (vb m + 48) 8) 0 (by decide) h mX9_87 (by decide) (sM_10 (m := m) (by omega)) sc_22 (by omega) (by omega) (fun h9 => absurd h9 (by decide)) rfl dX9_sayHellos_42 (cp_h1 (fun k => (Nat.add_assoc _ _ _).symm) (fun k => rfl)) (cp_h2 (fun k => rfl) (by omega)) ?_
  refine g_nm (fun σc eσc => ?_)
  have eσc_f : ∀ a, (a < 15130 ∨ 15130 + 8 ≤ a) → σc a = σb a := fun a ha => by rw [eσc]; exact cp_out ha
  have hcFR_σc : ∀ a, (a < 15110 ∨ 15138 ≤ a) → σc a = σ a := by intro a ha; exact Eq.trans (b := σb a) (eσc_f a (by first | omega | (simp only [vb] at *; omega))) (hcFR_σb a ha)
  have hvσc : vw (vb m) σc = μ := by rw [vw_fr (σ := σb) (fun j _ _ => eσc_f _ (by first | omega | (simp only [vb] at *; omega)))]; first | exact hvσb | assumption
  exact g_vret h hQ dX9_sayHellos_45 rfl (by exact ⟨(by exact ht_cp hm hv eσa eσb eσc), (by exact hcFR_σc)⟩)

set_option maxRecDepth 100000 in
set_option maxHeartbeats 4000000 in
theorem c_hearHellos {l : Launch} {w : Wd} (hW : Wi w) {σ : Mem} (μh : Nat → Int32) (d ls : Nat) (lo : Int32) (g : Nat → Nat → Int32) (m : Nat) (μ : Nat → Int32) (hm : m < 6) (hv : vw (vb m) σ = μ) (hI : MI μ) (hIh : MI μh) (hNh : nN μh = nN μ) (hcCL_σ : CL σ d ls lo) (hcHT_σ : HT 15110 μh σ) : MC l w qX9_hearHellos 2 [.ref (w.1 19), .ref (w.1 (mc m 0)), .ref (w.1 18)] σ none (fun σ' => (vw (vb m) σ' = (hlI ls μh (nN μ) (μ, d, lo, g) (nN μ)).1) ∧ (CL σ' (hlI ls μh (nN μ) (μ, d, lo, g) (nN μ)).2.1 ls (hlI ls μh (nN μ) (μ, d, lo, g) (nN μ)).2.2.1) ∧ (∀ a, ((a < vb m ∨ vb m + 464 ≤ a) ∧ (a < 14900 ∨ 14903 ≤ a)) → σ' a = σ a)) := by
  refine MC.of hW (by decide +kernel) (Nat.le_of_ble_eq_true rfl) (fun X h hQ hnm => ?_)
  have h : Fx X w cX9_hearHellos 6 RX9 2 := h
  have hQ : Qx X w none none (fun σ' => (vw (vb m) σ' = (hlI ls μh (nN μ) (μ, d, lo, g) (nN μ)).1) ∧ (CL σ' (hlI ls μh (nN μ) (μ, d, lo, g) (nN μ)).2.1 ls (hlI ls μh (nN μ) (μ, d, lo, g) (nN μ)).2.2.1) ∧ (∀ a, ((a < vb m ∨ vb m + 464 ≤ a) ∧ (a < 14900 ∨ 14903 ≤ a)) → σ' a = σ a)) := hQ
  have hN8 := mi_8 hI
  have hcFR_σ : ∀ a, ((a < vb m ∨ vb m + 464 ≤ a) ∧ (a < 14900 ∨ 14903 ≤ a)) → σ a = σ a := fun _ _ => rfl
  show G X w 6 0 [(0, .ref (w.1 19)), (1, .ref (w.1 (mc m 0))), (2, .ref (w.1 18))] [] σ
  refine g_iconst h dX9_hearHellos_0 (by decide) ?_
  refine g_istore_n (L' := [(0, .ref (w.1 19)), (1, .ref (w.1 (mc m 0))), (2, .ref (w.1 18)), (3, .int (nI 0))]) h dX9_hearHellos_1 rfl (by decide) rfl ?_
  have lp2 : ∀ (k9 : Nat) (i : Nat) (μ1 : Nat → Int32) (d1 : Nat) (lo1 : Int32) (τ1 : Mem), (hlI ls μh (nN μ) (μ, d, lo, g) i = (μ1, d1, lo1, g)) → (i ≤ nN μ) → (vw (vb m) τ1 = μ1) → (CL τ1 d1 ls lo1) → (HT 15110 μh τ1) → (∀ a, ((a < vb m ∨ vb m + 464 ≤ a) ∧ (a < 14900 ∨ 14903 ≤ a)) → τ1 a = σ a) → nN μ - i < k9 → G X w 6 2 [(0, .ref (w.1 19)), (1, .ref (w.1 (mc m 0))), (2, .ref (w.1 18)), (3, .int (nI i))] [] (τ1) := by
    intro k9
    induction k9 with
    | zero => intro i μ1 d1 lo1 τ1 hT hi hvτ1 hcCL_τ1 hcHT_τ1 hcFR_τ1 hm9; exact absurd hm9 (Nat.not_lt_zero _)
    | succ k9 ih2 =>
      intro i μ1 d1 lo1 τ1 hT hi hvτ1 hcCL_τ1 hcHT_τ1 hcFR_τ1 hm2
      have hA1 := hlI_all (ls := ls) (N := nN μ) (μh := μh) (s := (μ, d, lo, g)) hI hIh hNh rfl i hi
      rw [hT] at hA1
      have hI1 : MI μ1 := hA1.1
      have hN1 : nN μ1 = nN μ := hA1.2.1
      refine g_iload_n h dX9_hearHellos_2 3 rfl ?_
      refine g_aload_n h dX9_hearHellos_3 1 rfl ?_
      refine g_geti h dX9_hearHellos_4 gX9_47 (sM_0 (m := m) (by omega)) rfl ?_
      refine g_top (y := μ1 0) (vw_pic (b := (vb m)) (k := 0) (by first | exact hvτ1 | assumption) (by omega)) ?_
      refine g_top (y := nI (nN μ1)) (mi_0 (by assumption)) ?_
      refine g_icmpN_ge h dX9_hearHellos_7 (by omega) (by omega) (fun c7 => ?_) (fun c7 => ?_)
      ·
        have hE : (hlI ls μh (nN μ) (μ, d, lo, g) (nN μ)) = (μ1, d1, lo1, g) := by rw [← hT, show i = nN μ from by omega]
        exact g_vret h hQ dX9_hearHellos_95 rfl (by exact ⟨(by rw [hE]; exact hvτ1), (by rw [hE]; exact hcCL_τ1), (by exact hcFR_τ1)⟩)
      ·
        refine g_iconst h dX9_hearHellos_10 (by decide) ?_
        refine g_istore (L' := [(0, .ref (w.1 19)), (1, .ref (w.1 (mc m 0))), (2, .ref (w.1 18)), (3, .int (nI i)), (4, .int (nI 0))]) h dX9_hearHellos_11 rfl (by decide) rfl ?_
        have lp13 : ∀ (k9 : Nat) (j : Nat) (μ2 : Nat → Int32) (d2 : Nat) (lo2 : Int32) (τ2 : Mem), (hlJ ls μh i (μ1, d1, lo1, g) j = (μ2, d2, lo2, g)) → (j ≤ nN μ) → (vw (vb m) τ2 = μ2) → (CL τ2 d2 ls lo2) → (HT 15110 μh τ2) → (∀ a, ((a < vb m ∨ vb m + 464 ≤ a) ∧ (a < 14900 ∨ 14903 ≤ a)) → τ2 a = σ a) → nN μ - j < k9 → G X w 6 13 [(0, .ref (w.1 19)), (1, .ref (w.1 (mc m 0))), (2, .ref (w.1 18)), (3, .int (nI i)), (4, .int (nI j))] [] (τ2) := by
          intro k9
          induction k9 with
          | zero => intro j μ2 d2 lo2 τ2 hT2 hj hvτ2 hcCL_τ2 hcHT_τ2 hcFR_τ2 hm9; exact absurd hm9 (Nat.not_lt_zero _)
          | succ k9 ih13 =>
            intro j μ2 d2 lo2 τ2 hT2 hj hvτ2 hcCL_τ2 hcHT_τ2 hcFR_τ2 hm13
            have hA2 := hlJ_all (ls := ls) (i := i) (μh := μh) (s := (μ1, d1, lo1, g)) hI1 hIh (hNh.trans hN1.symm) (show i < nN μ1 by omega) j (show j ≤ nN μ1 by omega)
            rw [hT2] at hA2
            have hI2 : MI μ2 := hA2.1
            have hN2 : nN μ2 = nN μ := hA2.2.1.trans hN1
            refine g_iload h dX9_hearHellos_13 4 rfl ?_
            refine g_aload_n h dX9_hearHellos_15 1 rfl ?_
            refine g_geti h dX9_hearHellos_16 gX9_47 (sM_0 (m := m) (by omega)) rfl ?_
            refine g_top (y := μ2 0) (vw_pic (b := (vb m)) (k := 0) (by first | exact hvτ2 | assumption) (by omega)) ?_
            refine g_top (y := nI (nN μ2)) (mi_0 (by assumption)) ?_
            refine g_icmpN_ge h dX9_hearHellos_19 (by omega) (by omega) (fun c19 => ?_) (fun c19 => ?_)
            ·
              refine g_iincN (b := 1) (L' := [(0, .ref (w.1 19)), (1, .ref (w.1 (mc m 0))), (2, .ref (w.1 18)), (3, .int (nI (i + 1))), (4, .int (nI j))]) h dX9_hearHellos_89 3 rfl rfl (by decide) (by decide) rfl ?_
              refine g_goto h dX9_hearHellos_92 ?_
              exact g_sub [0, 1, 2, 3] rfl (ih2 (i + 1) μ2 d2 lo2 (τ2) (by rw [hlI, hT, ← hT2, show j = nN μ from by omega]) (by omega) (by first | exact hvτ2 | assumption | fail | fail) (by first | exact hcCL_τ2 | assumption | fail | fail) (by first | exact hcHT_τ2 | assumption | fail | fail) (by first | exact hcFR_τ2 | assumption | fail | fail) (by omega))
            ·
              refine g_iload h dX9_hearHellos_22 4 rfl ?_
              refine g_iload_n h dX9_hearHellos_24 3 rfl ?_
              refine g_icmpN_eq h dX9_hearHellos_25 (by omega) (by omega) (fun c25 => ?_) (fun c25 => ?_)
              ·
                refine g_iincN (b := 1) (L' := [(0, .ref (w.1 19)), (1, .ref (w.1 (mc m 0))), (2, .ref (w.1 18)), (3, .int (nI i)), (4, .int (nI (j + 1)))]) h dX9_hearHellos_83 4 rfl rfl (by decide) (by decide) rfl ?_
                refine g_goto h dX9_hearHellos_86 ?_
                exact ih13 (j + 1) μ2 d2 lo2 (τ2) (by rw [hlJ, hT2]; first | (simp [hl1, c7, c19, c25]; done) | (rw [Nat.add_zero, pr_le (by omega) (by omega), hhd]; simp [hl1, c7, c19, c25, ← hhd, show ¬ i = j from fun q9 => c25 q9.symm])) (by omega) (by first | exact hvτ2 | assumption | fail | fail) (by first | exact hcCL_τ2 | assumption | fail | fail) (by first | exact hcHT_τ2 | assumption | fail | fail) (by first | exact hcFR_τ2 | assumption | fail | fail) (by omega)
              ·
                refine g_aload_n h dX9_hearHellos_28 1 rfl ?_
                refine g_iload_n h dX9_hearHellos_29 3 rfl ?_
                refine g_cvpi (rest := []) h (c_isOnJ hW i m μ2 (by first | omega | decide | fail) (by first | exact hvτ2 | assumption | fail) (by assumption) (by omega)) lX5_isOn mX9_50 (Nat.lt_of_lt_of_le (by decide) (Nat.le_refl _)) (by decide) (sM_0 (m := m) (by omega)) rfl rfl rfl rfl dX9_hearHellos_30 ?_
                refine g_ifB_eq h dX9_hearHellos_33 (fun c33 => ?_) (fun c33 => ?_)
                ·
                  refine g_iincN (b := 1) (L' := [(0, .ref (w.1 19)), (1, .ref (w.1 (mc m 0))), (2, .ref (w.1 18)), (3, .int (nI i)), (4, .int (nI (j + 1)))]) h dX9_hearHellos_83 4 rfl rfl (by decide) (by decide) rfl ?_
                  refine g_goto h dX9_hearHellos_86 ?_
                  exact ih13 (j + 1) μ2 d2 lo2 (τ2) (by rw [hlJ, hT2]; first | (simp [hl1, c7, c19, c25, c33]; done) | (rw [Nat.add_zero, pr_le (by omega) (by omega), hhd]; simp [hl1, c7, c19, c25, c33, ← hhd, show ¬ i = j from fun q9 => c25 q9.symm])) (by omega) (by first | exact hvτ2 | assumption | fail | fail) (by first | exact hcCL_τ2 | assumption | fail | fail) (by first | exact hcHT_τ2 | assumption | fail | fail) (by first | exact hcFR_τ2 | assumption | fail | fail) (by omega)
                ·
                  have J58 : ∀ (hd : Bool) (τ3 : Mem), (hd = hrH μ2 i j d2 ls) → (vw (vb m) τ3 = μ2) → (CL τ3 (hrD μ2 i j d2) ls (hrL μ2 i j d2 ls lo2)) → (HT 15110 μh τ3) → (∀ a, ((a < vb m ∨ vb m + 464 ≤ a) ∧ (a < 14900 ∨ 14903 ≤ a)) → τ3 a = σ a) → G X w 6 58 [(0, .ref (w.1 19)), (1, .ref (w.1 (mc m 0))), (2, .ref (w.1 18)), (3, .int (nI i)), (4, .int (nI j))] [.int (b2i hd)] (τ3) := by
                    intro hd τ3 hhd hvτ3 hcCL_τ3 hcHT_τ3 hcFR_τ3
                    refine g_istore (L' := [(0, .ref (w.1 19)), (1, .ref (w.1 (mc m 0))), (2, .ref (w.1 18)), (3, .int (nI i)), (4, .int (nI j)), (5, .int (b2i hd))]) h dX9_hearHellos_58 rfl (by decide) rfl ?_
                    refine g_aload_n h dX9_hearHellos_60 0 rfl ?_
                    refine g_aload_n h dX9_hearHellos_61 1 rfl ?_
                    refine g_iload_n h dX9_hearHellos_62 3 rfl ?_
                    refine g_iload h dX9_hearHellos_63 4 rfl ?_
                    refine g_iload h dX9_hearHellos_65 5 rfl ?_
                    refine g_cvv (rest := []) h (c_prove hW i j hd m μ2 (by first | omega | decide | fail) (by first | exact hvτ3 | assumption | fail) (by assumption) (by omega) (by omega)) lX9_prove mX9_106 (Nat.lt_of_lt_of_le (by decide) (Nat.le_refl _)) (by decide) sc_19 rfl rfl rfl rfl dX9_hearHellos_67 (fun σ_1 eσ_1 => ?_)
                    obtain ⟨eσ_1_a, eσ_1_b⟩ := eσ_1
                    have eσ_1_a : vw (vb m) σ_1 = prP μ2 i j hd := eσ_1_a
                    have eσ_1_b : ∀ a, (a < vb m ∨ vb m + 464 ≤ a) → σ_1 a = (τ3) a := eσ_1_b
                    have hcCL_σ_1 : CL σ_1 (hrD μ2 i j d2) ls (hrL μ2 i j d2 ls lo2) := by exact CL.fr hcCL_τ3 (eσ_1_b _ (by first | omega | (simp only [vb] at *; omega))) (eσ_1_b _ (by first | omega | (simp only [vb] at *; omega))) (eσ_1_b _ (by first | omega | (simp only [vb] at *; omega)))
                    have hcHT_σ_1 : HT 15110 μh σ_1 := by exact HT.fr hcHT_τ3 (fun a ha hb => eσ_1_b a (by first | omega | (simp only [vb] at *; omega)))
                    have hcFR_σ_1 : ∀ a, ((a < vb m ∨ vb m + 464 ≤ a) ∧ (a < 14900 ∨ 14903 ≤ a)) → σ_1 a = σ a := by intro a ha; exact Eq.trans (b := (τ3) a) (eσ_1_b a (by first | omega | (simp only [vb] at *; omega))) (hcFR_τ3 a ha)
                    obtain ⟨μ_2, eμ_2⟩ : ∃ μ_2 : Nat → Int32, μ_2 = prP μ2 i j hd := ⟨_, rfl⟩
                    have hvσ_1 : vw (vb m) σ_1 = μ_2 := by rw [eμ_2]; exact eσ_1_a
                    refine g_aload_n h dX9_hearHellos_70 0 rfl ?_
                    refine g_aload_n h dX9_hearHellos_71 1 rfl ?_
                    refine g_getr h dX9_hearHellos_72 gX9_35 (sM_0 (m := m) (by omega)) rfl ?_
                    refine g_iload_n h dX9_hearHellos_75 3 rfl ?_
                    refine g_iload h dX9_hearHellos_76 4 rfl ?_
                    refine g_iload h dX9_hearHellos_78 5 rfl ?_
                    refine g_cvv (rest := []) h (c_learn hW i j hd μh m μ_2 (by first | omega | decide | fail) (by first | exact hvσ_1 | assumption | fail) (by omega) (by omega) (by first | exact hcHT_σ_1 | assumption | fail)) lX9_learn mX9_110 (Nat.lt_of_lt_of_le (by decide) (Nat.le_refl _)) (by decide) sc_19 rfl rfl rfl rfl dX9_hearHellos_80 (fun σ_3 eσ_3 => ?_)
                    obtain ⟨eσ_3_a, eσ_3_b, eσ_3_c⟩ := eσ_3
                    have eσ_3_a : vw (vb m) σ_3 = leP μh μ_2 i j hd := eσ_3_a
                    have eσ_3_b : HT 15110 μh σ_3 := eσ_3_b
                    have eσ_3_c : ∀ a, (a < vb m ∨ vb m + 464 ≤ a) → σ_3 a = σ_1 a := eσ_3_c
                    have hcCL_σ_3 : CL σ_3 (hrD μ2 i j d2) ls (hrL μ2 i j d2 ls lo2) := by exact CL.fr hcCL_σ_1 (eσ_3_c _ (by first | omega | (simp only [vb] at *; omega))) (eσ_3_c _ (by first | omega | (simp only [vb] at *; omega))) (eσ_3_c _ (by first | omega | (simp only [vb] at *; omega)))
                    have hcHT_σ_3 : HT 15110 μh σ_3 := eσ_3_b
                    have hcFR_σ_3 : ∀ a, ((a < vb m ∨ vb m + 464 ≤ a) ∧ (a < 14900 ∨ 14903 ≤ a)) → σ_3 a = σ a := by intro a ha; exact Eq.trans (b := σ_1 a) (eσ_3_c a (by first | omega | (simp only [vb] at *; omega))) (hcFR_σ_1 a ha)
                    obtain ⟨μ_4, eμ_4⟩ : ∃ μ_4 : Nat → Int32, μ_4 = leP μh μ_2 i j hd := ⟨_, rfl⟩
                    have hvσ_3 : vw (vb m) σ_3 = μ_4 := by rw [eμ_4]; exact eσ_3_a
                    refine g_iincN (b := 1) (L' := [(0, .ref (w.1 19)), (1, .ref (w.1 (mc m 0))), (2, .ref (w.1 18)), (3, .int (nI i)), (4, .int (nI (j + 1))), (5, .int (b2i hd))]) h dX9_hearHellos_83 4 rfl rfl (by decide) (by decide) rfl ?_
                    refine g_goto h dX9_hearHellos_86 ?_
                    exact g_sub [0, 1, 2, 3, 4] rfl (ih13 (j + 1) μ_4 (hrD μ2 i j d2) (hrL μ2 i j d2 ls lo2) σ_3 (by rw [hlJ, hT2]; first | (simp [hl1, c7, c19, c25, c33]; done) | (rw [eμ_4, eμ_2, pr_le (by omega) (by omega), hhd]; simp [hl1, c7, c19, c25, c33, ← hhd, show ¬ i = j from fun q9 => c25 q9.symm])) (by omega) (by first | exact hvσ_3 | assumption | fail | fail) (by first | exact hcCL_σ_3 | assumption | fail | fail) (by first | exact hcHT_σ_3 | assumption | fail | fail) (by first | exact hcFR_σ_3 | assumption | fail | fail) (by omega))
                  refine g_aload_n h dX9_hearHellos_36 1 rfl ?_
                  refine g_iload_n h dX9_hearHellos_37 3 rfl ?_
                  refine g_iload h dX9_hearHellos_38 4 rfl ?_
                  refine g_cvpi (rest := []) h (c_comesTo hW i j m μ2 (by first | omega | decide | fail) (by first | exact hvτ2 | assumption | fail) (by assumption) (by omega) (by omega)) lX5_comesTo mX9_96 (Nat.lt_of_lt_of_le (by decide) (Nat.le_refl _)) (by decide) (sM_0 (m := m) (by omega)) rfl rfl rfl rfl dX9_hearHellos_40 ?_
                  refine g_ifB_eq h dX9_hearHellos_43 (fun c43 => ?_) (fun c43 => ?_)
                  ·
                    refine g_iconst h dX9_hearHellos_57 (by decide) ?_
                    exact J58 false (τ2) (by simp [hrH, c7, c19, c25, c33, c43]) (by first | exact hvτ2 | assumption | fail | fail) (by simp [hrD, hrL, c7, c19, c25, c33, c43]; exact hcCL_τ2) (by first | exact hcHT_τ2 | assumption | fail | fail) (by first | exact hcFR_τ2 | assumption | fail | fail)
                  ·
                    refine g_aload_n h dX9_hearHellos_46 2 rfl ?_
                    refine g_cvi (rest := []) h (c_loses hW d2 ls lo2 (by first | exact hcCL_τ2 | assumption | fail)) lX4_loses mX9_100 (Nat.lt_of_lt_of_le (by decide) (Nat.le_refl _)) (by decide) sc_18 rfl rfl rfl rfl dX9_hearHellos_47 (fun σ_5 eσ_5 => ?_)
                    obtain ⟨eσ_5_a, eσ_5_b⟩ := eσ_5
                    have eσ_5_a : CL σ_5 (drw d2) ls (lsN d2 ls lo2) := eσ_5_a
                    have eσ_5_b : ∀ a, (a < 14900 ∨ 14903 ≤ a) → σ_5 a = (τ2) a := eσ_5_b
                    have hcCL_σ_5 : CL σ_5 (drw d2) ls (lsN d2 ls lo2) := eσ_5_a
                    have hcHT_σ_5 : HT 15110 μh σ_5 := by exact HT.fr hcHT_τ2 (fun a ha hb => eσ_5_b a (by first | omega | (simp only [vb] at *; omega)))
                    have hcFR_σ_5 : ∀ a, ((a < vb m ∨ vb m + 464 ≤ a) ∧ (a < 14900 ∨ 14903 ≤ a)) → σ_5 a = σ a := by intro a ha; exact Eq.trans (b := (τ2) a) (eσ_5_b a (by first | omega | (simp only [vb] at *; omega))) (hcFR_τ2 a ha)
                    have hvσ_5 : vw (vb m) σ_5 = μ2 := by rw [vw_fr (σ := (τ2)) (fun j _ _ => eσ_5_b _ (by first | omega | (simp only [vb] at *; omega)))]; first | exact hvτ2 | assumption
                    refine g_ifB_ne h dX9_hearHellos_50 (fun c50 => ?_) (fun c50 => ?_)
                    ·
                      refine g_iconst h dX9_hearHellos_57 (by decide) ?_
                      exact J58 false σ_5 (by simp [hrH, c7, c19, c25, c33, c43, c50]) (by first | exact hvσ_5 | assumption | fail | fail) (by simp [hrD, hrL, c7, c19, c25, c33, c43, c50]; exact hcCL_σ_5) (by first | exact hcHT_σ_5 | assumption | fail | fail) (by first | exact hcFR_σ_5 | assumption | fail | fail)
                    ·
                      refine g_iconst h dX9_hearHellos_53 (by decide) ?_
                      refine g_goto h dX9_hearHellos_54 ?_
                      exact J58 true σ_5 (by simp [hrH, c7, c19, c25, c33, c43, c50]) (by first | exact hvσ_5 | assumption | fail | fail) (by simp [hrD, hrL, c7, c19, c25, c33, c43, c50]; exact hcCL_σ_5) (by first | exact hcHT_σ_5 | assumption | fail | fail) (by first | exact hcFR_σ_5 | assumption | fail | fail)
        exact lp13 (_) 0 μ1 d1 lo1 (τ1) (by rfl) (by omega) (by first | exact hvτ1 | assumption | fail | fail) (by first | exact hcCL_τ1 | assumption | fail | fail) (by first | exact hcHT_τ1 | assumption | fail | fail) (by first | exact hcFR_τ1 | assumption | fail | fail) (Nat.lt_succ_self _)
  exact lp2 (_) 0 μ d lo σ (by rfl) (by omega) (by first | exact hv | assumption | fail | fail) (by first | exact hcCL_σ | assumption | fail | fail) (by first | exact hcHT_σ | assumption | fail | fail) (by first | exact hcFR_σ | assumption | fail | fail) (Nat.lt_succ_self _)

theorem hl1_log {ls i j : Nat} {μh : Nat → Int32} {s : TT} : (hl1 ls μh i j s).2.2.2 = s.2.2.2 := by
  unfold hl1
  split <;> rfl
theorem hlJ_log {ls i : Nat} {μh : Nat → Int32} {s : TT} : ∀ n, (hlJ ls μh i s n).2.2.2 = s.2.2.2
  | 0 => rfl
  | n + 1 => by rw [hlJ, hl1_log, hlJ_log n]
theorem hlI_log {ls N : Nat} {μh : Nat → Int32} {s : TT} : ∀ n, (hlI ls μh N s n).2.2.2 = s.2.2.2
  | 0 => rfl
  | n + 1 => by rw [hlI, hlJ_log, hlI_log n]
theorem hlI_eta {ls N n d : Nat} {μh μ : Nat → Int32} {lo : Int32} {g : Nat → Nat → Int32} : hlI ls μh N (μ, d, lo, g) n = ((hlI ls μh N (μ, d, lo, g) n).1, (hlI ls μh N (μ, d, lo, g) n).2.1, (hlI ls μh N (μ, d, lo, g) n).2.2.1, g) := Prod.ext rfl (Prod.ext rfl (Prod.ext rfl (hlI_log n)))
theorem tkA_e {ls d : Nat} {μ μh : Nat → Int32} {lo : Int32} {g : Nat → Nat → Int32} (e : μh = upd μ 2 (μ 2 + nI 1)) : tkA ls (μ, d, lo, g) = ((hlI ls μh (nN μh) (μh, d, lo, g) (nN μh)).1, (hlI ls μh (nN μh) (μh, d, lo, g) (nN μh)).2.1, (hlI ls μh (nN μh) (μh, d, lo, g) (nN μh)).2.2.1, g) := by
  have hN : nN μh = nN μ := by
    rw [e]
    exact tk2_N
  rw [← hlI_eta]
  unfold tkA
  dsimp only
  rw [← e, hN]
theorem st_mi {μ ν : Nat → Int32} {k : Nat} (hI : MI μ) (hk : k < 8) (e : ν = rlP μ k (8 * k)) (h : tb (ν 1) k = true) : MI (upd ν (48 + k) (chos ν k)) := by
  subst e
  rw [rl_fix (by omega) (by omega)] at h
  rw [ck_chos (rl_ck hI (by omega)) hk, rl_c h]
  exact rl_mik hI (by omega) (by omega)
theorem st_ag {μ ν : Nat → Int32} {k : Nat} (hI : MI μ) (hk : k < 8) (e : ν = rlP μ k (8 * k)) (h : tb (ν 1) k = true) : agP (upd ν (48 + k) (chos ν k)) k 8 = rlP μ (k + 1) (8 * (k + 1)) := by
  subst e
  rw [rl_fix (by omega) (by omega)] at h
  rw [ck_chos (rl_ck hI (by omega)) hk]
  exact ag_rl hk h
theorem st_off {μ ν : Nat → Int32} {k : Nat} (hk : k < 8) (e : ν = rlP μ k (8 * k)) (h : tb (ν 1) k = false) : ν = rlP μ (k + 1) (8 * (k + 1)) := by
  subst e
  rw [rl_fix (by omega) (by omega)] at h
  exact rl_off hk h
theorem es_7 {μ : Nat → Int32} {m : Nat} : nA (esP μ m) 7 = nA μ 7 := by
  unfold nA esP
  rw [if_neg (by omega)]

theorem c_sendN {l : Launch} {w : Wd} (hW : Wi w) {σ : Mem} (node : Nat) (d ls : Nat) (lo : Int32) (m : Nat) (μ : Nat → Int32) (hm : m < 6) (hv : vw (vb m) σ = μ) (hI : MI μ) (hn : node < nN μ) (hon : tb (μ 1) node = true) (hcCL_σ : CL σ d ls lo) : MC l w qX1_send 3 [.ref (w.1 16), .ref (w.1 (mc m 0)), .int (nI node), .int (nI 0), .ref (w.1 18)] σ none (fun σ' => (vw (vb m) σ' = (flS node false true ls μ d lo).2.2.2.2.1) ∧ (σ' 15040 = ((flS node false true ls μ d lo).2.2.2.1)) ∧ (σ' 15041 = (nI ((flS node false true ls μ d lo).2.1))) ∧ (CL σ' (flS node false true ls μ d lo).2.2.2.2.2.1 ls (flS node false true ls μ d lo).2.2.2.2.2.2) ∧ (∀ a, ((a < vb m ∨ vb m + 464 ≤ a) ∧ (a < 14900 ∨ 14903 ≤ a) ∧ (a < 15040 ∨ 15044 ≤ a) ∧ (a < 15140 ∨ 15148 ≤ a)) → σ' a = σ a)) := by
  have e := c_send (l := l) hW node 0 d ls lo m μ hm hv hI hn hon (by omega) hcCL_σ
  rw [show decide (0 = 2) = false from rfl, show decide (0 = 0) = true from rfl] at e
  exact e

set_option maxRecDepth 100000 in
set_option maxHeartbeats 4000000 in
theorem c_sendNotices {l : Launch} {w : Wd} (hW : Wi w) {σ : Mem} (d ls nt : Nat) (lo : Int32) (g : Nat → Nat → Int32) (m : Nat) (μ : Nat → Int32) (hm : m < 6) (hv : vw (vb m) σ = μ) (hI : MI μ) (h7 : μ 7 = nI nt) (hnt : nt + 8 < 2 ^ 30) (hcCL_σ : CL σ d ls lo) (hcLC_σ : LC (vb m) σ nt g) : MC l w qX9_sendNotices 4 [.ref (w.1 19), .ref (w.1 (mc m 0)), .ref (w.1 18)] σ none (fun σ' => (vw (vb m) σ' = (ntN ls (μ, d, lo, g) (nN μ)).1) ∧ (CL σ' (ntN ls (μ, d, lo, g) (nN μ)).2.1 ls (ntN ls (μ, d, lo, g) (nN μ)).2.2.1) ∧ (LC (vb m) σ' (nA (ntN ls (μ, d, lo, g) (nN μ)).1 7) (ntN ls (μ, d, lo, g) (nN μ)).2.2.2) ∧ (∀ a, ((a < vb m ∨ vb m + 528 ≤ a) ∧ (a < 14900 ∨ 14903 ≤ a) ∧ (a < 15040 ∨ 15044 ≤ a) ∧ (a < 15140 ∨ 15148 ≤ a)) → σ' a = σ a)) := by
  refine MC.of hW (by decide +kernel) (Nat.le_of_ble_eq_true rfl) (fun X h hQ hnm => ?_)
  have h : Fx X w cX9_sendNotices 5 RX9 4 := h
  have hQ : Qx X w none none (fun σ' => (vw (vb m) σ' = (ntN ls (μ, d, lo, g) (nN μ)).1) ∧ (CL σ' (ntN ls (μ, d, lo, g) (nN μ)).2.1 ls (ntN ls (μ, d, lo, g) (nN μ)).2.2.1) ∧ (LC (vb m) σ' (nA (ntN ls (μ, d, lo, g) (nN μ)).1 7) (ntN ls (μ, d, lo, g) (nN μ)).2.2.2) ∧ (∀ a, ((a < vb m ∨ vb m + 528 ≤ a) ∧ (a < 14900 ∨ 14903 ≤ a) ∧ (a < 15040 ∨ 15044 ≤ a) ∧ (a < 15140 ∨ 15148 ≤ a)) → σ' a = σ a)) := hQ
  have hN8 := mi_8 hI
  have hcFR_σ : ∀ a, ((a < vb m ∨ vb m + 528 ≤ a) ∧ (a < 14900 ∨ 14903 ≤ a) ∧ (a < 15040 ∨ 15044 ≤ a) ∧ (a < 15140 ∨ 15148 ≤ a)) → σ a = σ a := fun _ _ => rfl
  show G X w 5 0 [(0, .ref (w.1 19)), (1, .ref (w.1 (mc m 0))), (2, .ref (w.1 18))] [] σ
  refine g_iconst h dX9_sendNotices_0 (by decide) ?_
  refine g_istore_n (L' := [(0, .ref (w.1 19)), (1, .ref (w.1 (mc m 0))), (2, .ref (w.1 18)), (3, .int (nI 0))]) h dX9_sendNotices_1 rfl (by decide) rfl ?_
  have lp2 : ∀ (k9 : Nat) (k : Nat) (μ1 : Nat → Int32) (d1 : Nat) (lo1 : Int32) (n1 : Nat) (g1 : Nat → Nat → Int32) (τ1 : Mem), (ntN ls (μ, d, lo, g) k = (μ1, d1, lo1, g1)) → (k ≤ nN μ) → (μ1 7 = nI n1) → (n1 ≤ nt + k) → (vw (vb m) τ1 = μ1) → (CL τ1 d1 ls lo1) → (LC (vb m) τ1 n1 g1) → (∀ a, ((a < vb m ∨ vb m + 528 ≤ a) ∧ (a < 14900 ∨ 14903 ≤ a) ∧ (a < 15040 ∨ 15044 ≤ a) ∧ (a < 15140 ∨ 15148 ≤ a)) → τ1 a = σ a) → nN μ - k < k9 → G X w 5 2 [(0, .ref (w.1 19)), (1, .ref (w.1 (mc m 0))), (2, .ref (w.1 18)), (3, .int (nI k))] [] (τ1) := by
    intro k9
    induction k9 with
    | zero => intro k μ1 d1 lo1 n1 g1 τ1 hT hk h71 hn1 hvτ1 hcCL_τ1 hcLC_τ1 hcFR_τ1 hm9; exact absurd hm9 (Nat.not_lt_zero _)
    | succ k9 ih2 =>
      intro k μ1 d1 lo1 n1 g1 τ1 hT hk h71 hn1 hvτ1 hcCL_τ1 hcLC_τ1 hcFR_τ1 hm2
      have hA1 := ntN_all (ls := ls) (s := (μ, d, lo, g)) hI k hk
      rw [hT] at hA1
      have hI1 : MI μ1 := hA1.1
      have hN1 : nN μ1 = nN μ := hA1.2.1
      refine g_iload_n h dX9_sendNotices_2 3 rfl ?_
      refine g_aload_n h dX9_sendNotices_3 1 rfl ?_
      refine g_geti h dX9_sendNotices_4 gX9_47 (sM_0 (m := m) (by omega)) rfl ?_
      refine g_top (y := μ1 0) (vw_pic (b := (vb m)) (k := 0) (by first | exact hvτ1 | assumption) (by omega)) ?_
      refine g_top (y := nI (nN μ1)) (mi_0 (by assumption)) ?_
      refine g_icmpN_ge h dX9_sendNotices_7 (by omega) (by omega) (fun c7 => ?_) (fun c7 => ?_)
      ·
        have hE : (ntN ls (μ, d, lo, g) (nN μ)) = (μ1, d1, lo1, g1) := by rw [← hT, show k = nN μ from by omega]
        exact g_vret h hQ dX9_sendNotices_90 rfl (by exact ⟨(by rw [hE]; exact hvτ1), (by rw [hE]; exact hcCL_τ1), (by rw [hE]; dsimp only; rw [nA_nI (by omega) h71]; exact hcLC_τ1), (by exact hcFR_τ1)⟩)
      ·
        refine g_aload_n h dX9_sendNotices_10 1 rfl ?_
        refine g_getr h dX9_sendNotices_11 gX9_35 (sM_0 (m := m) (by omega)) rfl ?_
        refine g_getr h dX9_sendNotices_14 gX9_136 (sM_4 (m := m) (by omega)) rfl ?_
        refine g_iload_n h dX9_sendNotices_17 3 rfl ?_
        refine g_iald h dX9_sendNotices_18 (sM_9 (m := m) (by omega)) (by omega) ?_
        refine g_top (y := μ1 (72 + k)) (vw_pic (b := (vb m)) (k := 72 + k) (by first | exact hvτ1 | assumption) (by omega)) ?_
        refine g_istore (L' := [(0, .ref (w.1 19)), (1, .ref (w.1 (mc m 0))), (2, .ref (w.1 18)), (3, .int (nI k)), (4, .int (μ1 (72 + k)))]) h dX9_sendNotices_19 rfl (by decide) rfl ?_
        refine g_aload_n h dX9_sendNotices_21 1 rfl ?_
        refine g_iload_n h dX9_sendNotices_22 3 rfl ?_
        refine g_cvpi (rest := []) h (c_isOnJ hW k m μ1 (by first | omega | decide | fail) (by first | exact hvτ1 | assumption | fail) (by assumption) (by omega)) lX5_isOn mX9_50 (Nat.lt_of_lt_of_le (by decide) (Nat.le_refl _)) (by decide) (sM_0 (m := m) (by omega)) rfl rfl rfl rfl dX9_sendNotices_23 ?_
        refine g_ifB_eq h dX9_sendNotices_26 (fun c26 => ?_) (fun c26 => ?_)
        ·
          refine g_iincN (b := 1) (L' := [(0, .ref (w.1 19)), (1, .ref (w.1 (mc m 0))), (2, .ref (w.1 18)), (3, .int (nI (k + 1))), (4, .int (μ1 (72 + k)))]) h dX9_sendNotices_84 3 rfl rfl (by decide) (by decide) rfl ?_
          refine g_goto h dX9_sendNotices_87 ?_
          exact g_sub [0, 1, 2, 3] rfl (ih2 (k + 1) μ1 d1 lo1 n1 g1 (τ1) (by rw [ntN, hT]; simp [nt1, c7, c26, Nat.add_zero]) (by omega) (by first | exact h71 | exact h7n | fail | fail) (by omega) (by first | exact hvτ1 | assumption | fail | fail) (by first | exact hcCL_τ1 | assumption | fail | fail) (by first | exact hcLC_τ1 | assumption | fail | fail) (by first | exact hcFR_τ1 | assumption | fail | fail) (by omega))
        ·
          refine g_iload h dX9_sendNotices_29 4 rfl ?_
          refine g_if_eq h dX9_sendNotices_31 (fun c31 => ?_) (fun c31 => ?_)
          ·
            refine g_iincN (b := 1) (L' := [(0, .ref (w.1 19)), (1, .ref (w.1 (mc m 0))), (2, .ref (w.1 18)), (3, .int (nI (k + 1))), (4, .int (μ1 (72 + k)))]) h dX9_sendNotices_84 3 rfl rfl (by decide) (by decide) rfl ?_
            refine g_goto h dX9_sendNotices_87 ?_
            exact g_sub [0, 1, 2, 3] rfl (ih2 (k + 1) μ1 d1 lo1 n1 g1 (τ1) (by rw [ntN, hT]; simp [nt1, c7, c26, c31, Nat.add_zero]) (by omega) (by first | exact h71 | exact h7n | fail | fail) (by omega) (by first | exact hvτ1 | assumption | fail | fail) (by first | exact hcCL_τ1 | assumption | fail | fail) (by first | exact hcLC_τ1 | assumption | fail | fail) (by first | exact hcFR_τ1 | assumption | fail | fail) (by omega))
          ·
            refine g_aload_n h dX9_sendNotices_34 1 rfl ?_
            refine g_getr h dX9_sendNotices_35 gX9_65 (sM_0 (m := m) (by omega)) rfl ?_
            refine g_iload_n h dX9_sendNotices_38 3 rfl ?_
            refine g_iload h dX9_sendNotices_39 4 rfl ?_
            refine g_cvv (rest := []) h (c_renew hW k m μ1 (by first | omega | decide | fail) (by first | exact hvτ1 | assumption | fail) (by assumption) (by omega)) lX6_renew mX9_142 (Nat.lt_of_lt_of_le (by decide) (Nat.le_refl _)) (by decide) (sM_11 (m := m) (by omega)) rfl rfl rfl rfl dX9_sendNotices_41 (fun σ_1 eσ_1 => ?_)
            obtain ⟨eσ_1_a, eσ_1_b⟩ := eσ_1
            have eσ_1_a : vw (vb m) σ_1 = rnw μ1 k := eσ_1_a
            have eσ_1_b : ∀ a, (a < vb m ∨ vb m + 464 ≤ a) → σ_1 a = (τ1) a := eσ_1_b
            have hcCL_σ_1 : CL σ_1 d1 ls lo1 := by exact CL.fr hcCL_τ1 (eσ_1_b _ (by first | omega | (simp only [vb] at *; omega))) (eσ_1_b _ (by first | omega | (simp only [vb] at *; omega))) (eσ_1_b _ (by first | omega | (simp only [vb] at *; omega)))
            have hcLC_σ_1 : LC (vb m) σ_1 n1 g1 := by exact LC.fr hcLC_τ1 (fun a ha hb => eσ_1_b a (by first | omega | (simp only [vb] at *; omega)))
            have hcFR_σ_1 : ∀ a, ((a < vb m ∨ vb m + 528 ≤ a) ∧ (a < 14900 ∨ 14903 ≤ a) ∧ (a < 15040 ∨ 15044 ≤ a) ∧ (a < 15140 ∨ 15148 ≤ a)) → σ_1 a = σ a := by intro a ha; exact Eq.trans (b := (τ1) a) (eσ_1_b a (by first | omega | (simp only [vb] at *; omega))) (hcFR_τ1 a ha)
            obtain ⟨μr, eμr⟩ : ∃ μr : Nat → Int32, μr = rnw μ1 k := ⟨_, rfl⟩
            have hvσ_1 : vw (vb m) σ_1 = μr := by rw [eμr]; exact eσ_1_a
            have hIr : MI μr := by rw [eμr]; exact rn_mi hI1 (by omega)
            have hNr : nN μr = nN μ1 := by rw [eμr]; exact rn_N (by omega)
            have hOr : tb (μr 1) k = true := by rw [eμr, rn_fix (by omega) (by omega)]; exact c26
            have hnr : k < nN μr := by omega
            refine g_aload_n h dX9_sendNotices_44 0 rfl ?_
            refine g_getr h dX9_sendNotices_45 gX9_15 sc_19 rfl ?_
            refine g_aload_n h dX9_sendNotices_48 1 rfl ?_
            refine g_iload_n h dX9_sendNotices_49 3 rfl ?_
            refine g_iconst h dX9_sendNotices_50 (by decide) ?_
            refine g_aload_n h dX9_sendNotices_51 2 rfl ?_
            refine g_cvv (rest := []) h (c_sendN hW k d1 ls lo1 m μr (by first | omega | decide | fail) (by first | exact hvσ_1 | assumption | fail) (by exact hIr) (by omega) (by exact hOr) (by first | exact hcCL_σ_1 | assumption | fail)) lX1_send mX9_148 (Nat.lt_of_lt_of_le (by decide) (Nat.le_refl _)) (by decide) sc_16 rfl rfl rfl rfl dX9_sendNotices_52 (fun σ_2 eσ_2 => ?_)
            obtain ⟨eσ_2_a, eσ_2_b, eσ_2_c, eσ_2_d, eσ_2_e⟩ := eσ_2
            have eσ_2_a : vw (vb m) σ_2 = (flS k false true ls μr d1 lo1).2.2.2.2.1 := eσ_2_a
            have eσ_2_b : σ_2 15040 = ((flS k false true ls μr d1 lo1).2.2.2.1) := eσ_2_b
            have eσ_2_c : σ_2 15041 = (nI ((flS k false true ls μr d1 lo1).2.1)) := eσ_2_c
            have eσ_2_d : CL σ_2 (flS k false true ls μr d1 lo1).2.2.2.2.2.1 ls (flS k false true ls μr d1 lo1).2.2.2.2.2.2 := eσ_2_d
            have eσ_2_e : ∀ a, ((a < vb m ∨ vb m + 464 ≤ a) ∧ (a < 14900 ∨ 14903 ≤ a) ∧ (a < 15040 ∨ 15044 ≤ a) ∧ (a < 15140 ∨ 15148 ≤ a)) → σ_2 a = σ_1 a := eσ_2_e
            have ht15040_σ_2 : σ_2 15040 = ((flS k false true ls μr d1 lo1).2.2.2.1) := eσ_2_b
            have ht15041_σ_2 : σ_2 15041 = (nI ((flS k false true ls μr d1 lo1).2.1)) := eσ_2_c
            have hcCL_σ_2 : CL σ_2 (flS k false true ls μr d1 lo1).2.2.2.2.2.1 ls (flS k false true ls μr d1 lo1).2.2.2.2.2.2 := eσ_2_d
            have hcLC_σ_2 : LC (vb m) σ_2 n1 g1 := by exact LC.fr hcLC_σ_1 (fun a ha hb => eσ_2_e a (by first | omega | (simp only [vb] at *; omega)))
            have hcFR_σ_2 : ∀ a, ((a < vb m ∨ vb m + 528 ≤ a) ∧ (a < 14900 ∨ 14903 ≤ a) ∧ (a < 15040 ∨ 15044 ≤ a) ∧ (a < 15140 ∨ 15148 ≤ a)) → σ_2 a = σ a := by intro a ha; exact Eq.trans (b := σ_1 a) (eσ_2_e a (by first | omega | (simp only [vb] at *; omega))) (hcFR_σ_1 a ha)
            obtain ⟨μf, eμf⟩ : ∃ μf : Nat → Int32, μf = (flS k false true ls μr d1 lo1).2.2.2.2.1 := ⟨_, rfl⟩
            have hvσ_2 : vw (vb m) σ_2 = μf := by rw [eμf]; exact eσ_2_a
            have hWf := FW.all (ls := ls) (d := d1) (bl := false) (td := true) (lo := lo1) hIr (show k < nN μr by omega) hOr
            have hIf : MI μf := by rw [eμf]; exact hWf.1
            have hf7 : μf 7 = nI n1 := by rw [eμf, hWf.2.1 7 (by omega) (by omega), eμr, rn_fix (by omega) (by omega)]; exact h71
            have hgs : sb 8 (flS k false true ls μr d1 lo1).2.2.2.1 := sb_mono (by omega) hWf.2.2.2.2.2.1
            refine g_aload_n h dX9_sendNotices_55 1 rfl ?_
            refine g_getr h dX9_sendNotices_56 gX9_65 (sM_0 (m := m) (by omega)) rfl ?_
            refine g_aload_n h dX9_sendNotices_59 1 rfl ?_
            refine g_geti h dX9_sendNotices_60 gX9_29 (sM_0 (m := m) (by omega)) rfl ?_
            refine g_top (y := μf 2) (vw_pic (b := (vb m)) (k := 2) (by first | exact hvσ_2 | assumption) (by omega)) ?_
            refine g_top (y := μr 2) (by rw [eμf]; exact (FW.all (by assumption) (by assumption) (by assumption)).2.1 _ (by omega) (by omega)) ?_
            refine g_top (y := μ1 2) (by rw [eμr]; exact rn_fix (by omega) (by omega)) ?_
            refine g_iload_n h dX9_sendNotices_63 3 rfl ?_
            refine g_aload_n h dX9_sendNotices_64 0 rfl ?_
            refine g_getr h dX9_sendNotices_65 gX9_15 sc_19 rfl ?_
            refine g_geti h dX9_sendNotices_68 gX9_152 sc_16 rfl ?_
            refine g_top (y := ((flS k false true ls μr d1 lo1).2.2.2.1)) (by first | exact ht15040_σ_2 | assumption) ?_
            refine g_cspi (rest := [.int (nI k), .int (μ1 2), .ref (w.1 (mc m 11))]) h (j_bc hW ((flS k false true ls μr d1 lo1).2.2.2.1) (by exact hgs)) lJ6_bitCount_0f7a4 mX9_155 (Nat.lt_of_lt_of_le (by decide) (Nat.le_refl _)) (by decide) rfl rfl rfl dX9_sendNotices_71 ?_
            have p9_71 := pc_le ((flS k false true ls μr d1 lo1).2.2.2.1)
            refine g_aload_n h dX9_sendNotices_74 0 rfl ?_
            refine g_getr h dX9_sendNotices_75 gX9_15 sc_19 rfl ?_
            refine g_geti h dX9_sendNotices_78 gX9_161 sc_16 rfl ?_
            refine g_top (y := (nI ((flS k false true ls μr d1 lo1).2.1))) (by first | exact ht15041_σ_2 | assumption) ?_
            refine g_cvv (rest := []) h (c_write hW (μ1 2) k (pc ((flS k false true ls μr d1 lo1).2.2.2.1)) ((flS k false true ls μr d1 lo1).2.1) n1 g1 m μf (by first | omega | decide | fail) (by first | exact hvσ_2 | assumption | fail) (by exact hIf) (by exact hf7) (by omega) (by first | exact hcLC_σ_2 | assumption | fail)) lX6_write mX9_164 (Nat.lt_of_lt_of_le (by decide) (Nat.le_refl _)) (by decide) (sM_11 (m := m) (by omega)) rfl rfl rfl rfl dX9_sendNotices_81 (fun σ_3 eσ_3 => ?_)
            obtain ⟨eσ_3_a, eσ_3_b, eσ_3_c⟩ := eσ_3
            have eσ_3_a : vw (vb m) σ_3 = upd (upd μf 7 (μf 7 + nI 1)) 8 (μf 8 + nI ((flS k false true ls μr d1 lo1).2.1)) := eσ_3_a
            have eσ_3_b : LC (vb m) σ_3 (n1 + 1) (pu g1 (μ1 2) (nI k) (nI (pc ((flS k false true ls μr d1 lo1).2.2.2.1))) (nI ((flS k false true ls μr d1 lo1).2.1))) := eσ_3_b
            have eσ_3_c : ∀ a, (a < vb m ∨ vb m + 528 ≤ a) → σ_3 a = σ_2 a := eσ_3_c
            have ht15040_σ_3 : σ_3 15040 = ((flS k false true ls μr d1 lo1).2.2.2.1) := by rw [eσ_3_c _ (by first | omega | (simp only [vb] at *; omega))]; first | exact ht15040_σ_2 | assumption
            have ht15041_σ_3 : σ_3 15041 = (nI ((flS k false true ls μr d1 lo1).2.1)) := by rw [eσ_3_c _ (by first | omega | (simp only [vb] at *; omega))]; first | exact ht15041_σ_2 | assumption
            have hcCL_σ_3 : CL σ_3 (flS k false true ls μr d1 lo1).2.2.2.2.2.1 ls (flS k false true ls μr d1 lo1).2.2.2.2.2.2 := by exact CL.fr hcCL_σ_2 (eσ_3_c _ (by first | omega | (simp only [vb] at *; omega))) (eσ_3_c _ (by first | omega | (simp only [vb] at *; omega))) (eσ_3_c _ (by first | omega | (simp only [vb] at *; omega)))
            have hcLC_σ_3 : LC (vb m) σ_3 (n1 + 1) (pu g1 (μ1 2) (nI k) (nI (pc ((flS k false true ls μr d1 lo1).2.2.2.1))) (nI ((flS k false true ls μr d1 lo1).2.1))) := eσ_3_b
            have hcFR_σ_3 : ∀ a, ((a < vb m ∨ vb m + 528 ≤ a) ∧ (a < 14900 ∨ 14903 ≤ a) ∧ (a < 15040 ∨ 15044 ≤ a) ∧ (a < 15140 ∨ 15148 ≤ a)) → σ_3 a = σ a := by intro a ha; exact Eq.trans (b := σ_2 a) (eσ_3_c a (by first | omega | (simp only [vb] at *; omega))) (hcFR_σ_2 a ha)
            obtain ⟨μw, eμw⟩ : ∃ μw : Nat → Int32, μw = upd (upd μf 7 (μf 7 + nI 1)) 8 (μf 8 + nI ((flS k false true ls μr d1 lo1).2.1)) := ⟨_, rfl⟩
            have hvσ_3 : vw (vb m) σ_3 = μw := by rw [eμw]; exact eσ_3_a
            have h7n : μw 7 = nI (n1 + 1) := by rw [eμw, upd_ne (by omega), upd_eq, hf7]; exact nI_p1.symm
            refine g_iincN (b := 1) (L' := [(0, .ref (w.1 19)), (1, .ref (w.1 (mc m 0))), (2, .ref (w.1 18)), (3, .int (nI (k + 1))), (4, .int (μ1 (72 + k)))]) h dX9_sendNotices_84 3 rfl rfl (by decide) (by decide) rfl ?_
            refine g_goto h dX9_sendNotices_87 ?_
            exact g_sub [0, 1, 2, 3] rfl (ih2 (k + 1) μw ((flS k false true ls μr d1 lo1).2.2.2.2.2.1) ((flS k false true ls μr d1 lo1).2.2.2.2.2.2) (n1 + 1) (pu g1 (μ1 2) (nI k) (nI (pc ((flS k false true ls μr d1 lo1).2.2.2.1))) (nI ((flS k false true ls μr d1 lo1).2.1))) σ_3 (by rw [ntN, hT]; simp [nt1, c7, c26, c31, eμw, eμf, eμr]) (by omega) (by first | exact h71 | exact h7n | fail | fail) (by omega) (by first | exact hvσ_3 | assumption | fail | fail) (by first | exact hcCL_σ_3 | assumption | fail | fail) (by first | exact hcLC_σ_3 | assumption | fail | fail) (by first | exact hcFR_σ_3 | assumption | fail | fail) (by omega))
  exact lp2 (_) 0 μ d lo nt g σ (by rfl) (by omega) (by exact h7) (by omega) (by first | exact hv | assumption | fail | fail) (by first | exact hcCL_σ | assumption | fail | fail) (by first | exact hcLC_σ | assumption | fail | fail) (by first | exact hcFR_σ | assumption | fail | fail) (Nat.lt_succ_self _)

set_option maxRecDepth 100000 in
set_option maxHeartbeats 4000000 in
theorem c_step {l : Launch} {w : Wd} (hW : Wi w) {σ : Mem} (d ls nt : Nat) (lo : Int32) (g : Nat → Nat → Int32) (m : Nat) (μ : Nat → Int32) (hm : m < 6) (hv : vw (vb m) σ = μ) (hI : MI μ) (h7 : μ 7 = nI nt) (hnt : nt + 8 < 2 ^ 30) (hcCL_σ : CL σ d ls lo) (hcLC_σ : LC (vb m) σ nt g) : MC l w qX9_step 5 [.ref (w.1 19), .ref (w.1 (mc m 0)), .ref (w.1 18)] σ none (fun σ' => (vw (vb m) σ' = (tkF ls (μ, d, lo, g)).1) ∧ (CL σ' (tkF ls (μ, d, lo, g)).2.1 ls (tkF ls (μ, d, lo, g)).2.2.1) ∧ (LC (vb m) σ' (nA (tkF ls (μ, d, lo, g)).1 7) (tkF ls (μ, d, lo, g)).2.2.2) ∧ (∀ a, ((a < vb m ∨ vb m + 528 ≤ a) ∧ a < 14900) → σ' a = σ a)) := by
  refine MC.of hW (by decide +kernel) (Nat.le_of_ble_eq_true rfl) (fun X h hQ hnm => ?_)
  have h : Fx X w cX9_step 4 RX9 5 := h
  have hQ : Qx X w none none (fun σ' => (vw (vb m) σ' = (tkF ls (μ, d, lo, g)).1) ∧ (CL σ' (tkF ls (μ, d, lo, g)).2.1 ls (tkF ls (μ, d, lo, g)).2.2.1) ∧ (LC (vb m) σ' (nA (tkF ls (μ, d, lo, g)).1 7) (tkF ls (μ, d, lo, g)).2.2.2) ∧ (∀ a, ((a < vb m ∨ vb m + 528 ≤ a) ∧ a < 14900) → σ' a = σ a)) := hQ
  have hN8 := mi_8 hI
  have hcFR_σ : ∀ a, ((a < vb m ∨ vb m + 528 ≤ a) ∧ a < 14900) → σ a = σ a := fun _ _ => rfl
  show G X w 4 0 [(0, .ref (w.1 19)), (1, .ref (w.1 (mc m 0))), (2, .ref (w.1 18))] [] σ
  refine g_aload_n h dX9_step_0 1 rfl ?_
  refine g_dup h dX9_step_1 rfl ?_
  refine g_geti h dX9_step_2 gX9_29 (sM_0 (m := m) (by omega)) rfl ?_
  refine g_top (y := μ 2) (vw_pic (b := (vb m)) (k := 2) (by first | exact hv | assumption) (by omega)) ?_
  refine g_iconst h dX9_step_5 (by decide) ?_
  refine g_iadd h dX9_step_6  ?_
  refine g_puti h dX9_step_7 pX9_29 (sM_0 (m := m) (by omega)) rfl ?_
  refine g_nm (fun σ_1 eσ_1 => ?_)
  have eσ_1 : σ_1 = upd σ ((vb m) + 2) ((μ 2) + (nI 1)) := eσ_1
  have hcCL_σ_1 : CL σ_1 d ls lo := by rw [eσ_1]; exact CL.fr hcCL_σ (upd_ne (by first | omega | (simp only [vb] at *; omega))) (upd_ne (by first | omega | (simp only [vb] at *; omega))) (upd_ne (by first | omega | (simp only [vb] at *; omega)))
  have hcLC_σ_1 : LC (vb m) σ_1 nt g := by rw [eσ_1]; exact LC.fr hcLC_σ (fun a ha hb => upd_ne (by first | omega | (simp only [vb] at *; omega)))
  have hcFR_σ_1 : ∀ a, ((a < vb m ∨ vb m + 528 ≤ a) ∧ a < 14900) → σ_1 a = σ a := by intro a ha; exact Eq.trans (b := σ a) (by rw [eσ_1, upd_ne (by first | omega | (simp only [vb] at *; omega))]) (hcFR_σ a ha)
  obtain ⟨μh, eμh⟩ : ∃ μh : Nat → Int32, μh = upd μ 2 ((μ 2) + (nI 1)) := ⟨_, rfl⟩
  have hvσ_1 : vw (vb m) σ_1 = μh := by rw [eσ_1, eμh, vw_in (by omega)]; congr 1
  have hIh : MI μh := by rw [eμh]; exact tk2_mi hI
  refine g_aload_n h dX9_step_10 0 rfl ?_
  refine g_aload_n h dX9_step_11 1 rfl ?_
  refine g_getr h dX9_step_12 gX9_35 (sM_0 (m := m) (by omega)) rfl ?_
  refine g_cvv (rest := []) h (c_sayHellos hW m μh (by first | omega | decide | fail) (by first | exact hvσ_1 | assumption | fail)) lX9_sayHellos mX9_39 (Nat.lt_of_lt_of_le (by decide) (Nat.le_refl _)) (by decide) sc_19 rfl rfl rfl rfl dX9_step_15 (fun σ_2 eσ_2 => ?_)
  obtain ⟨eσ_2_a, eσ_2_b⟩ := eσ_2
  have eσ_2_a : HT 15110 μh σ_2 := eσ_2_a
  have eσ_2_b : ∀ a, (a < 15110 ∨ 15138 ≤ a) → σ_2 a = σ_1 a := eσ_2_b
  have hcCL_σ_2 : CL σ_2 d ls lo := by exact CL.fr hcCL_σ_1 (eσ_2_b _ (by first | omega | (simp only [vb] at *; omega))) (eσ_2_b _ (by first | omega | (simp only [vb] at *; omega))) (eσ_2_b _ (by first | omega | (simp only [vb] at *; omega)))
  have hcLC_σ_2 : LC (vb m) σ_2 nt g := by exact LC.fr hcLC_σ_1 (fun a ha hb => eσ_2_b a (by first | omega | (simp only [vb] at *; omega)))
  have hcFR_σ_2 : ∀ a, ((a < vb m ∨ vb m + 528 ≤ a) ∧ a < 14900) → σ_2 a = σ a := by intro a ha; exact Eq.trans (b := σ_1 a) (eσ_2_b a (by first | omega | (simp only [vb] at *; omega))) (hcFR_σ_1 a ha)
  have hcHT_σ_2 : HT 15110 μh σ_2 := eσ_2_a
  have hvσ_2 : vw (vb m) σ_2 = μh := by rw [vw_fr (σ := σ_1) (fun j _ _ => eσ_2_b _ (by first | omega | (simp only [vb] at *; omega)))]; first | exact hvσ_1 | assumption
  refine g_aload_n h dX9_step_18 0 rfl ?_
  refine g_aload_n h dX9_step_19 1 rfl ?_
  refine g_aload_n h dX9_step_20 2 rfl ?_
  refine g_cvv (rest := []) h (c_hearHellos hW μh d ls lo g m μh (by first | omega | decide | fail) (by first | exact hvσ_2 | assumption | fail) (by exact hIh) (by exact hIh) (by rfl) (by first | exact hcCL_σ_2 | assumption | fail) (by first | exact hcHT_σ_2 | assumption | fail)) lX9_hearHellos mX9_43 (Nat.lt_of_lt_of_le (by decide) (Nat.le_refl _)) (by decide) sc_19 rfl rfl rfl rfl dX9_step_21 (fun σ_3 eσ_3 => ?_)
  obtain ⟨eσ_3_a, eσ_3_b, eσ_3_c⟩ := eσ_3
  have eσ_3_a : vw (vb m) σ_3 = (hlI ls μh (nN μh) (μh, d, lo, g) (nN μh)).1 := eσ_3_a
  have eσ_3_b : CL σ_3 (hlI ls μh (nN μh) (μh, d, lo, g) (nN μh)).2.1 ls (hlI ls μh (nN μh) (μh, d, lo, g) (nN μh)).2.2.1 := eσ_3_b
  have eσ_3_c : ∀ a, ((a < vb m ∨ vb m + 464 ≤ a) ∧ (a < 14900 ∨ 14903 ≤ a)) → σ_3 a = σ_2 a := eσ_3_c
  have hcCL_σ_3 : CL σ_3 (hlI ls μh (nN μh) (μh, d, lo, g) (nN μh)).2.1 ls (hlI ls μh (nN μh) (μh, d, lo, g) (nN μh)).2.2.1 := eσ_3_b
  have hcLC_σ_3 : LC (vb m) σ_3 nt g := by exact LC.fr hcLC_σ_2 (fun a ha hb => eσ_3_c a (by first | omega | (simp only [vb] at *; omega)))
  have hcFR_σ_3 : ∀ a, ((a < vb m ∨ vb m + 528 ≤ a) ∧ a < 14900) → σ_3 a = σ a := by intro a ha; exact Eq.trans (b := σ_2 a) (eσ_3_c a (by first | omega | (simp only [vb] at *; omega))) (hcFR_σ_2 a ha)
  have hcHT_σ_3 : HT 15110 μh σ_3 := by exact HT.fr hcHT_σ_2 (fun a ha hb => eσ_3_c a (by first | omega | (simp only [vb] at *; omega)))
  obtain ⟨μq, eμq⟩ : ∃ μq : Nat → Int32, μq = (hlI ls μh (nN μh) (μh, d, lo, g) (nN μh)).1 := ⟨_, rfl⟩
  have hvσ_3 : vw (vb m) σ_3 = μq := by rw [eμq]; exact eσ_3_a
  refine g_iconst h dX9_step_24 (by decide) ?_
  refine g_istore_n (L' := [(0, .ref (w.1 19)), (1, .ref (w.1 (mc m 0))), (2, .ref (w.1 18)), (3, .int (nI 0))]) h dX9_step_25 rfl (by decide) rfl ?_
  have lp26 : ∀ (k9 : Nat) (k : Nat) (μr : Nat → Int32) (d1 : Nat) (lo1 : Int32) (τ1 : Mem) (μA : Nat → Int32), (tkA ls (μ, d, lo, g) = (μA, d1, lo1, g)) → (μr = rlP μA k (8 * k)) → (k ≤ nN μ) → (vw (vb m) τ1 = μr) → (CL τ1 d1 ls lo1) → (LC (vb m) τ1 nt g) → (∀ a, ((a < vb m ∨ vb m + 528 ≤ a) ∧ a < 14900) → τ1 a = σ a) → nN μ - k < k9 → G X w 4 26 [(0, .ref (w.1 19)), (1, .ref (w.1 (mc m 0))), (2, .ref (w.1 18)), (3, .int (nI k))] [] (τ1) := by
    intro k9
    induction k9 with
    | zero => intro k μr d1 lo1 τ1 μA hEA hr hk hvτ1 hcCL_τ1 hcLC_τ1 hcFR_τ1 hm9; exact absurd hm9 (Nat.not_lt_zero _)
    | succ k9 ih26 =>
      intro k μr d1 lo1 τ1 μA hEA hr hk hvτ1 hcCL_τ1 hcLC_τ1 hcFR_τ1 hm26
      have hA1 := tkA_all (ls := ls) (s := (μ, d, lo, g)) hI
      rw [hEA] at hA1
      have hIA : MI μA := hA1.1
      have hNA : nN μA = nN μ := hA1.2
      have hIr : MI μr := by rw [hr]; exact rl_mik hIA (by omega) (by omega)
      have hNr : nN μr = nN μ := by rw [hr]; exact (rl_ck hIA (by omega)).1.trans hNA
      refine g_iload_n h dX9_step_26 3 rfl ?_
      refine g_aload_n h dX9_step_27 1 rfl ?_
      refine g_geti h dX9_step_28 gX9_47 (sM_0 (m := m) (by omega)) rfl ?_
      refine g_top (y := μr 0) (vw_pic (b := (vb m)) (k := 0) (by first | exact hvτ1 | assumption) (by omega)) ?_
      refine g_top (y := nI (nN μr)) (mi_0 (by assumption)) ?_
      refine g_icmpN_ge h dX9_step_31 (by omega) (by omega) (fun c31 => ?_) (fun c31 => ?_)
      ·
        have hEC : tkC ls (μ, d, lo, g) = (μr, d1, lo1, g) := by unfold tkC; rw [hEA]; dsimp only; rw [hr, show k = nN μ from by omega, ← hNA, rl_end hIA]
        have h7r : μr 7 = nI nt := by have q := tkC_7 (ls := ls) (s := (μ, d, lo, g)) hI; rw [hEC] at q; exact q.trans h7
        refine g_aload_n h dX9_step_74 1 rfl ?_
        refine g_geti h dX9_step_75 gX9_75 (sM_0 (m := m) (by omega)) rfl ?_
        refine g_top (y := μr 3) (vw_pic (b := (vb m)) (k := 3) (by first | exact hvτ1 | assumption) (by omega)) ?_
        refine g_top (y := nI (nA μr 3)) (mi_3 (by assumption)) ?_
        have b9_75 : nA μr 3 < 10 := mb_3 (by assumption)
        refine g_ifN_le h dX9_step_78 (by omega) (fun c78 => ?_) (fun c78 => ?_)
        ·
          exfalso; have := ml_3 hIr; omega
        ·
          refine g_aload_n h dX9_step_81 1 rfl ?_
          refine g_geti h dX9_step_82 gX9_29 (sM_0 (m := m) (by omega)) rfl ?_
          refine g_top (y := μr 2) (vw_pic (b := (vb m)) (k := 2) (by first | exact hvτ1 | assumption) (by omega)) ?_
          refine g_aload_n h dX9_step_85 1 rfl ?_
          refine g_geti h dX9_step_86 gX9_75 (sM_0 (m := m) (by omega)) rfl ?_
          refine g_top (y := μr 3) (vw_pic (b := (vb m)) (k := 3) (by first | exact hvτ1 | assumption) (by omega)) ?_
          refine g_top (y := (μr 3)) rfl ?_
          refine g_irem h dX9_step_89 (by exact mi_3ne hIr) ?_
          refine g_if_ne h dX9_step_90 (fun c90 => ?_) (fun c90 => ?_)
          ·
            have hED : tkD ls (μ, d, lo, g) = (μr, d1, lo1, g) := by unfold tkD; rw [hEC, if_neg (show ¬ du μr = true from fun q => c90 (of_decide_eq_true q))]
            refine g_aload_n h dX9_step_99 1 rfl ?_
            refine g_cvv (rest := []) h (c_easeJams hW m μr (by first | omega | decide | fail) (by first | exact hvτ1 | assumption | fail) (by first | exact hIr | (rw [eμs]; exact hIs) | fail)) lX5_easeJams mX9_81 (Nat.lt_of_lt_of_le (by decide) (Nat.le_refl _)) (by decide) (sM_0 (m := m) (by omega)) rfl rfl rfl rfl dX9_step_100 (fun σ_4 eσ_4 => ?_)
            obtain ⟨eσ_4_a, eσ_4_b⟩ := eσ_4
            have eσ_4_a : vw (vb m) σ_4 = esP μr 64 := eσ_4_a
            have eσ_4_b : ∀ a, (a < vb m ∨ vb m + 464 ≤ a) → σ_4 a = (τ1) a := eσ_4_b
            have hcCL_σ_4 : CL σ_4 d1 ls lo1 := by exact CL.fr hcCL_τ1 (eσ_4_b _ (by first | omega | (simp only [vb] at *; omega))) (eσ_4_b _ (by first | omega | (simp only [vb] at *; omega))) (eσ_4_b _ (by first | omega | (simp only [vb] at *; omega)))
            have hcLC_σ_4 : LC (vb m) σ_4 nt g := by exact LC.fr hcLC_τ1 (fun a ha hb => eσ_4_b a (by first | omega | (simp only [vb] at *; omega)))
            have hcFR_σ_4 : ∀ a, ((a < vb m ∨ vb m + 528 ≤ a) ∧ a < 14900) → σ_4 a = σ a := by intro a ha; exact Eq.trans (b := (τ1) a) (eσ_4_b a (by first | omega | (simp only [vb] at *; omega))) (hcFR_τ1 a ha)
            obtain ⟨μe, eμe⟩ : ∃ μe : Nat → Int32, μe = esP μr 64 := ⟨_, rfl⟩
            have hvσ_4 : vw (vb m) σ_4 = μe := by rw [eμe]; exact eσ_4_a
            exact g_vret h hQ dX9_step_103 rfl (by exact ⟨(by rw [hvσ_4, eμe]; simp only [tkF, hED]; try rw [eμs]), (by simp only [tkF, hED]; exact hcCL_σ_4), (by simp only [tkF, hED, es_7]; first | exact hcLC_σ_4 | (rw [nA_nI (by omega) h7r]; exact hcLC_σ_4)), (by exact hcFR_σ_4)⟩)
          ·
            have hED : tkD ls (μ, d, lo, g) = ntN ls (μr, d1, lo1, g) (nN μr) := by unfold tkD; rw [hEC, if_pos (show du μr = true from decide_eq_true c90), show nN μr = nN μ from hNr]
            have hIs := (ntN_all (ls := ls) (s := (μr, d1, lo1, g)) hIr (nN μr) (Nat.le_refl _)).1
            refine g_aload_n h dX9_step_93 0 rfl ?_
            refine g_aload_n h dX9_step_94 1 rfl ?_
            refine g_aload_n h dX9_step_95 2 rfl ?_
            refine g_cvv (rest := []) h (c_sendNotices hW d1 ls nt lo1 g m μr (by first | omega | decide | fail) (by first | exact hvτ1 | assumption | fail) (by exact hIr) (by first | exact h7r | exact h7 | fail) (by omega) (by first | exact hcCL_τ1 | assumption | fail) (by first | exact hcLC_τ1 | assumption | fail)) lX9_sendNotices mX9_78 (Nat.lt_of_lt_of_le (by decide) (Nat.le_refl _)) (by decide) sc_19 rfl rfl rfl rfl dX9_step_96 (fun σ_5 eσ_5 => ?_)
            obtain ⟨eσ_5_a, eσ_5_b, eσ_5_c, eσ_5_d⟩ := eσ_5
            have eσ_5_a : vw (vb m) σ_5 = (ntN ls (μr, d1, lo1, g) (nN μr)).1 := eσ_5_a
            have eσ_5_b : CL σ_5 (ntN ls (μr, d1, lo1, g) (nN μr)).2.1 ls (ntN ls (μr, d1, lo1, g) (nN μr)).2.2.1 := eσ_5_b
            have eσ_5_c : LC (vb m) σ_5 (nA (ntN ls (μr, d1, lo1, g) (nN μr)).1 7) (ntN ls (μr, d1, lo1, g) (nN μr)).2.2.2 := eσ_5_c
            have eσ_5_d : ∀ a, ((a < vb m ∨ vb m + 528 ≤ a) ∧ (a < 14900 ∨ 14903 ≤ a) ∧ (a < 15040 ∨ 15044 ≤ a) ∧ (a < 15140 ∨ 15148 ≤ a)) → σ_5 a = (τ1) a := eσ_5_d
            have hcCL_σ_5 : CL σ_5 (ntN ls (μr, d1, lo1, g) (nN μr)).2.1 ls (ntN ls (μr, d1, lo1, g) (nN μr)).2.2.1 := eσ_5_b
            have hcLC_σ_5 : LC (vb m) σ_5 (nA (ntN ls (μr, d1, lo1, g) (nN μr)).1 7) (ntN ls (μr, d1, lo1, g) (nN μr)).2.2.2 := eσ_5_c
            have hcFR_σ_5 : ∀ a, ((a < vb m ∨ vb m + 528 ≤ a) ∧ a < 14900) → σ_5 a = σ a := by intro a ha; exact Eq.trans (b := (τ1) a) (eσ_5_d a (by first | omega | (simp only [vb] at *; omega))) (hcFR_τ1 a ha)
            obtain ⟨μs, eμs⟩ : ∃ μs : Nat → Int32, μs = (ntN ls (μr, d1, lo1, g) (nN μr)).1 := ⟨_, rfl⟩
            have hvσ_5 : vw (vb m) σ_5 = μs := by rw [eμs]; exact eσ_5_a
            refine g_aload_n h dX9_step_99 1 rfl ?_
            refine g_cvv (rest := []) h (c_easeJams hW m μs (by first | omega | decide | fail) (by first | exact hvσ_5 | assumption | fail) (by first | exact hIr | (rw [eμs]; exact hIs) | fail)) lX5_easeJams mX9_81 (Nat.lt_of_lt_of_le (by decide) (Nat.le_refl _)) (by decide) (sM_0 (m := m) (by omega)) rfl rfl rfl rfl dX9_step_100 (fun σ_6 eσ_6 => ?_)
            obtain ⟨eσ_6_a, eσ_6_b⟩ := eσ_6
            have eσ_6_a : vw (vb m) σ_6 = esP μs 64 := eσ_6_a
            have eσ_6_b : ∀ a, (a < vb m ∨ vb m + 464 ≤ a) → σ_6 a = σ_5 a := eσ_6_b
            have hcCL_σ_6 : CL σ_6 (ntN ls (μr, d1, lo1, g) (nN μr)).2.1 ls (ntN ls (μr, d1, lo1, g) (nN μr)).2.2.1 := by exact CL.fr hcCL_σ_5 (eσ_6_b _ (by first | omega | (simp only [vb] at *; omega))) (eσ_6_b _ (by first | omega | (simp only [vb] at *; omega))) (eσ_6_b _ (by first | omega | (simp only [vb] at *; omega)))
            have hcLC_σ_6 : LC (vb m) σ_6 (nA (ntN ls (μr, d1, lo1, g) (nN μr)).1 7) (ntN ls (μr, d1, lo1, g) (nN μr)).2.2.2 := by exact LC.fr hcLC_σ_5 (fun a ha hb => eσ_6_b a (by first | omega | (simp only [vb] at *; omega)))
            have hcFR_σ_6 : ∀ a, ((a < vb m ∨ vb m + 528 ≤ a) ∧ a < 14900) → σ_6 a = σ a := by intro a ha; exact Eq.trans (b := σ_5 a) (eσ_6_b a (by first | omega | (simp only [vb] at *; omega))) (hcFR_σ_5 a ha)
            obtain ⟨μe, eμe⟩ : ∃ μe : Nat → Int32, μe = esP μs 64 := ⟨_, rfl⟩
            have hvσ_6 : vw (vb m) σ_6 = μe := by rw [eμe]; exact eσ_6_a
            exact g_vret h hQ dX9_step_103 rfl (by exact ⟨(by rw [hvσ_6, eμe]; simp only [tkF, hED]; try rw [eμs]), (by simp only [tkF, hED]; exact hcCL_σ_6), (by simp only [tkF, hED, es_7]; first | exact hcLC_σ_6 | (rw [nA_nI (by omega) h7r]; exact hcLC_σ_6)), (by exact hcFR_σ_6)⟩)
      ·
        refine g_aload_n h dX9_step_34 1 rfl ?_
        refine g_iload_n h dX9_step_35 3 rfl ?_
        refine g_cvpi (rest := []) h (c_isOnJ hW k m μr (by first | omega | decide | fail) (by first | exact hvτ1 | assumption | fail) (by assumption) (by omega)) lX5_isOn mX9_50 (Nat.lt_of_lt_of_le (by decide) (Nat.le_refl _)) (by decide) (sM_0 (m := m) (by omega)) rfl rfl rfl rfl dX9_step_36 ?_
        refine g_ifB_eq h dX9_step_39 (fun c39 => ?_) (fun c39 => ?_)
        ·
          refine g_iincN (b := 1) (L' := [(0, .ref (w.1 19)), (1, .ref (w.1 (mc m 0))), (2, .ref (w.1 18)), (3, .int (nI (k + 1)))]) h dX9_step_68 3 rfl rfl (by decide) (by decide) rfl ?_
          refine g_goto h dX9_step_71 ?_
          exact ih26 (k + 1) μr d1 lo1 (τ1) μA (by exact hEA) (by first | exact st_off (by omega) hr c39 | (rw [Nat.add_zero]; exact st_ag hIA (by omega) hr c39) | fail | fail) (by omega) (by first | exact hvτ1 | assumption | fail | fail) (by first | exact hcCL_τ1 | assumption | fail | fail) (by first | exact hcLC_τ1 | assumption | fail | fail) (by first | exact hcFR_τ1 | assumption | fail | fail) (by omega)
        ·
          refine g_aload_n h dX9_step_42 1 rfl ?_
          refine g_getr h dX9_step_43 gX9_35 (sM_0 (m := m) (by omega)) rfl ?_
          refine g_getr h dX9_step_46 gX9_54 (sM_4 (m := m) (by omega)) rfl ?_
          refine g_iload_n h dX9_step_49 3 rfl ?_
          refine g_aload_n h dX9_step_50 0 rfl ?_
          refine g_getr h dX9_step_51 gX9_9 sc_19 rfl ?_
          refine g_aload_n h dX9_step_54 1 rfl ?_
          refine g_iload_n h dX9_step_55 3 rfl ?_
          refine g_cvi (rest := [.int (nI k), .ref (w.1 (mc m 10))]) h (c_chosen hW k m μr (by first | omega | decide | fail) (by first | exact hvτ1 | assumption | fail) (by assumption) (by omega)) lX0_chosen mX9_59 (Nat.lt_of_lt_of_le (by decide) (Nat.le_refl _)) (by decide) sc_6 rfl rfl rfl rfl dX9_step_56 (fun σ_7 eσ_7 => ?_)
          obtain ⟨eσ_7_a, eσ_7_b⟩ := eσ_7
          have eσ_7_a : PK μr k σ_7 15013 15100 := eσ_7_a
          have eσ_7_b : ∀ a, (a ≠ 15013 ∧ (a < 15100 ∨ 15108 ≤ a)) → σ_7 a = (τ1) a := eσ_7_b
          have hcCL_σ_7 : CL σ_7 d1 ls lo1 := by exact CL.fr hcCL_τ1 (eσ_7_b _ (by first | omega | (simp only [vb] at *; omega))) (eσ_7_b _ (by first | omega | (simp only [vb] at *; omega))) (eσ_7_b _ (by first | omega | (simp only [vb] at *; omega)))
          have hcLC_σ_7 : LC (vb m) σ_7 nt g := by exact LC.fr hcLC_τ1 (fun a ha hb => eσ_7_b a (by first | omega | (simp only [vb] at *; omega)))
          have hcFR_σ_7 : ∀ a, ((a < vb m ∨ vb m + 528 ≤ a) ∧ a < 14900) → σ_7 a = σ a := by intro a ha; exact Eq.trans (b := (τ1) a) (eσ_7_b a (by first | omega | (simp only [vb] at *; omega))) (hcFR_τ1 a ha)
          have hvσ_7 : vw (vb m) σ_7 = μr := by rw [vw_fr (σ := (τ1)) (fun j _ _ => eσ_7_b _ (by first | omega | (simp only [vb] at *; omega)))]; first | exact hvτ1 | assumption
          refine g_iast h dX9_step_59 (sM_10 (m := m) (by omega)) (by omega) ?_
          refine g_nm (fun σ_8 eσ_8 => ?_)
          have eσ_8 : σ_8 = upd σ_7 ((vb m) + (48 + k)) (chos μr k) := eσ_8
          have hcCL_σ_8 : CL σ_8 d1 ls lo1 := by rw [eσ_8]; exact CL.fr hcCL_σ_7 (upd_ne (by first | omega | (simp only [vb] at *; omega))) (upd_ne (by first | omega | (simp only [vb] at *; omega))) (upd_ne (by first | omega | (simp only [vb] at *; omega)))
          have hcLC_σ_8 : LC (vb m) σ_8 nt g := by rw [eσ_8]; exact LC.fr hcLC_σ_7 (fun a ha hb => upd_ne (by first | omega | (simp only [vb] at *; omega)))
          have hcFR_σ_8 : ∀ a, ((a < vb m ∨ vb m + 528 ≤ a) ∧ a < 14900) → σ_8 a = σ a := by intro a ha; exact Eq.trans (b := σ_7 a) (by rw [eσ_8, upd_ne (by first | omega | (simp only [vb] at *; omega))]) (hcFR_σ_7 a ha)
          obtain ⟨μk, eμk⟩ : ∃ μk : Nat → Int32, μk = upd μr (48 + k) (chos μr k) := ⟨_, rfl⟩
          have hvσ_8 : vw (vb m) σ_8 = μk := by rw [eσ_8, eμk, vw_in (by omega)]; congr 1
          have hIk : MI μk := by rw [eμk]; exact st_mi hIA (by omega) hr c39
          refine g_aload_n h dX9_step_60 1 rfl ?_
          refine g_getr h dX9_step_61 gX9_65 (sM_0 (m := m) (by omega)) rfl ?_
          refine g_iload_n h dX9_step_64 3 rfl ?_
          refine g_cvv (rest := []) h (c_age hW k m μk (by first | omega | decide | fail) (by first | exact hvσ_8 | assumption | fail) (by exact hIk) (by omega)) lX6_age mX9_69 (Nat.lt_of_lt_of_le (by decide) (Nat.le_refl _)) (by decide) (sM_11 (m := m) (by omega)) rfl rfl rfl rfl dX9_step_65 (fun σ_9 eσ_9 => ?_)
          obtain ⟨eσ_9_a, eσ_9_b⟩ := eσ_9
          have eσ_9_a : vw (vb m) σ_9 = agP μk k 8 := eσ_9_a
          have eσ_9_b : ∀ a, (a < vb m ∨ vb m + 464 ≤ a) → σ_9 a = σ_8 a := eσ_9_b
          have hcCL_σ_9 : CL σ_9 d1 ls lo1 := by exact CL.fr hcCL_σ_8 (eσ_9_b _ (by first | omega | (simp only [vb] at *; omega))) (eσ_9_b _ (by first | omega | (simp only [vb] at *; omega))) (eσ_9_b _ (by first | omega | (simp only [vb] at *; omega)))
          have hcLC_σ_9 : LC (vb m) σ_9 nt g := by exact LC.fr hcLC_σ_8 (fun a ha hb => eσ_9_b a (by first | omega | (simp only [vb] at *; omega)))
          have hcFR_σ_9 : ∀ a, ((a < vb m ∨ vb m + 528 ≤ a) ∧ a < 14900) → σ_9 a = σ a := by intro a ha; exact Eq.trans (b := σ_8 a) (eσ_9_b a (by first | omega | (simp only [vb] at *; omega))) (hcFR_σ_8 a ha)
          obtain ⟨μ_10, eμ_10⟩ : ∃ μ_10 : Nat → Int32, μ_10 = agP μk k 8 := ⟨_, rfl⟩
          have hvσ_9 : vw (vb m) σ_9 = μ_10 := by rw [eμ_10]; exact eσ_9_a
          refine g_iincN (b := 1) (L' := [(0, .ref (w.1 19)), (1, .ref (w.1 (mc m 0))), (2, .ref (w.1 18)), (3, .int (nI (k + 1)))]) h dX9_step_68 3 rfl rfl (by decide) (by decide) rfl ?_
          refine g_goto h dX9_step_71 ?_
          exact ih26 (k + 1) μ_10 d1 lo1 σ_9 μA (by exact hEA) (by first | exact st_off (by omega) hr c39 | (rw [eμ_10, eμk]; exact st_ag hIA (by omega) hr c39) | fail | fail) (by omega) (by first | exact hvσ_9 | assumption | fail | fail) (by first | exact hcCL_σ_9 | assumption | fail | fail) (by first | exact hcLC_σ_9 | assumption | fail | fail) (by first | exact hcFR_σ_9 | assumption | fail | fail) (by omega)
  exact lp26 (_) 0 μq ((hlI ls μh (nN μh) (μh, d, lo, g) (nN μh)).2.1) ((hlI ls μh (nN μh) (μh, d, lo, g) (nN μh)).2.2.1) σ_3 μq (by rw [eμq]; exact tkA_e eμh) (by exact (rl_0 _).symm) (by omega) (by first | exact hvσ_3 | assumption | fail | fail) (by first | exact hcCL_σ_3 | assumption | fail | fail) (by first | exact hcLC_σ_3 | assumption | fail | fail) (by first | exact hcFR_σ_3 | assumption | fail | fail) (Nat.lt_succ_self _)
