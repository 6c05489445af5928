/-! the reference's tick -/
theorem ht_more {b k : Nat} {μh : Nat → Int32} {τ σa σb σc : Mem} (hb : b = 5110) (hk : k < 8) (h : ∀ j, j < k → τ (b + j) = μh (56 + j) ∧ τ (b + 10 + j) = μh (64 + j) ∧ τ (b + 20 + j) = μh (48 + j)) (e1 : σa = upd τ (5110 + k) (μh (56 + k))) (e2 : σb = upd σa (5120 + k) (μh (64 + k))) (e3 : σc = upd σb (5130 + k) (μh (48 + k))) :
    ∀ j, j < k + 1 → σc (b + j) = μh (56 + j) ∧ σc (b + 10 + j) = μh (64 + j) ∧ σc (b + 20 + j) = μh (48 + j) := fun j hj => by
  subst hb
  by_cases e : j = k
  · subst e
    refine ⟨?_, ?_, ?_⟩
    · rw [e3, upd_ne (by omega), e2, upd_ne (by omega), e1, upd_eq]
    · rw [e3, upd_ne (by omega), e2, show 5110 + 10 + j = 5120 + j from by omega, upd_eq]
    · rw [e3, show 5110 + 20 + j = 5130 + j from by omega, upd_eq]
  · obtain ⟨q1, q2, q3⟩ := h j (by omega)
    refine ⟨?_, ?_, ?_⟩
    · rw [e3, upd_ne (by omega), e2, upd_ne (by omega), e1, upd_ne (by omega)]; exact q1
    · rw [e3, upd_ne (by omega), e2, upd_ne (by omega), e1, upd_ne (by omega)]; exact q2
    · rw [e3, upd_ne (by omega), e2, upd_ne (by omega), e1, upd_ne (by omega)]; exact q3
theorem rl_mik {μ : Nat → Int32} {k m : Nat} (h : MI μ) (hk : k ≤ 8) (hm : m ≤ 64) : MI (rlP μ k m) := by
  have h8 := mi_8 h
  have eN : nN (rlP μ k m) = nN μ := (rl_ck h hk).1
  refine mi_of (by rw [rl_fix (by omega) hk, eN]; exact mi_0 h) (by rw [eN]; exact h8) (by unfold nA; rw [rl_fix (by omega) hk, rl_fix (by omega) hk]; exact ml_6 h) fun a ha => ?_
  rw [eN]
  unfold rlP
  split
  · exact pw_set (by omega) (by omega) (by omega) (fun _ _ => sb_chos h)
  · split
    · rename_i c
      have e := mb_400 h (j := a - 400) (by omega)
      rw [show 400 + (a - 400) = a from by omega] at e
      refine pw_num (n := nA μ a - 1) ?_ (by omega) (fun h1 h2 h3 => ?_)
      · have := nb400 (j := a - 400) (by omega)
        rw [show 400 + (a - 400) = a from by omega] at this
        rw [this]
        omega
      · have h4 := ml_left h (i := (a - 400) / 8) (j := (a - 400) % 8) (by omega) h3 (by omega)
        rw [show 400 + (8 * ((a - 400) / 8) + (a - 400) % 8) = a from by omega] at h4
        rw [nA_nI (by decide) h4]
    · exact mi_pw h a
theorem nI_m1 {n : Nat} (h : 0 < n) : nI n + (-1) = nI (n - 1) := by
  obtain ⟨k, rfl⟩ : ∃ k, n = k + 1 := ⟨n - 1, by omega⟩
  rw [show k + 1 - 1 = k from rfl, show (-1 : Int32) = Int32.ofInt (-1) from by decide]
  exact pI_dec
/-- a topology is a tick older, as the reference writes it -/
theorem rl_r {μ ν : Nat → Int32} {k m : Nat} (hI : MI μ) (hk : k ≤ 8) (hm : m < 64) (e : ν = rlP μ k m) (h : tb (ν 1) (m / 8) = true) (h0 : 0 < nA ν (400 + m)) : upd ν (400 + m) (ν (400 + m) + (-1)) = rlP μ k (m + 1) := by
  subst e
  rw [rl_fix (by omega) hk] at h
  have e2 : rlP μ k m (400 + m) = μ (400 + m) := rl_at hk
  have e3 : nA (rlP μ k m) (400 + m) = nA μ (400 + m) := by unfold nA; rw [e2]
  rw [e3] at h0
  rw [← rl_a hk h, e2, mi_400 hI hm, nI_m1 h0]
theorem rl_n {μ ν : Nat → Int32} {k m : Nat} (hI : MI μ) (hk : k ≤ 8) (hm : m < 64) (e : ν = rlP μ k m) (h : tb (ν 1) (m / 8) = false ∨ nA ν (400 + m) = 0) : ν = rlP μ k (m + 1) := by
  subst e
  refine rl_an hk ?_
  rcases h with h | h
  · rw [rl_fix (by omega) hk] at h
    exact Or.inl h
  · have e3 : nA (rlP μ k m) (400 + m) = nA μ (400 + m) := by unfold nA; rw [rl_at hk]
    rw [e3] at h
    right
    rw [mi_400 hI hm, h]
theorem rl_row {μ : Nat → Int32} {k i : Nat} (hI : MI μ) (hk : k ≤ 8) (hi : i < 8) : rlP μ k (8 * i + nN μ) = rlP μ k (8 * (i + 1)) := by
  have h8 := mi_8 hI
  have := rl_skip (μ := μ) (k := k) (m := 8 * i + nN μ) hk (8 - nN μ) (fun x h1 h2 => Or.inr (by
    have h4 := ml_left hI (i := x / 8) (j := x % 8) (by omega) (by omega) (by omega)
    rwa [show 400 + (8 * (x / 8) + x % 8) = 400 + x from by omega] at h4))
  rw [this, show 8 * i + nN μ + (8 - nN μ) = 8 * (i + 1) from by omega]
theorem es_r {μ ν : Nat → Int32} {k : Nat} (e : ν = esP μ k) : upd ν (208 + k) (nI (nA ν (208 + k) - 1)) = esP μ (k + 1) := by
  subst e
  have e3 : nA (esP μ k) (208 + k) = nA μ (208 + k) := by unfold nA; rw [es_at]
  rw [e3, es_s]
theorem rl_c1 {μ ν : Nat → Int32} {k : Nat} (hI : MI μ) (hk : k < 8) (e : ν = rlP μ k 0) (h : tb (ν 1) k = true) : upd ν (48 + k) (chos ν k) = rlP μ (k + 1) 0 := by
  subst e
  rw [rl_fix (by omega) (by omega)] at h
  rw [ck_chos (rl_ck hI (by omega)) hk, rl_c h]
theorem rl_c0 {μ ν : Nat → Int32} {k : Nat} (hk : k < 8) (e : ν = rlP μ k 0) (h : tb (ν 1) k = false) : ν = rlP μ (k + 1) 0 := by
  subst e
  rw [rl_fix (by omega) (by omega)] at h
  exact rl_cn h
/-- how many notices there are -/
theorem nt_7 {ls node n : Nat} {s : TT} (h : MI s.1) (hn : node < nN s.1) (h7 : s.1 7 = nI n) : ∃ n', n' ≤ n + 1 ∧ (nt1 ls node s).1 7 = nI n' := by
  have h8 := mi_8 h
  unfold nt1
  split
  · rename_i c
    simp only [Bool.and_eq_true] at c
    refine ⟨n + 1, Nat.le_refl _, ?_⟩
    dsimp only
    rw [upd_ne (by omega), upd_eq, (FW.all (rn_mi h (by omega)) (by rw [rn_N (by omega)]; exact hn) (by rw [rn_fix (by omega) (by omega)]; exact c.1)).2.1 7 (by omega) (by omega), rn_fix (by omega) (by omega), h7]
    exact nI_p1.symm
  · exact ⟨n, by omega, h7⟩
theorem ntN_7 {ls n : Nat} {s : TT} (h : MI s.1) (h7 : s.1 7 = nI n) : ∀ k, k ≤ nN s.1 → ∃ n', n' ≤ n + k ∧ (ntN ls s k).1 7 = nI n'
  | 0, _ => ⟨n, by omega, h7⟩
  | k + 1, hk => by
    obtain ⟨n1, h1, h2⟩ := ntN_7 (ls := ls) h h7 k (by omega)
    obtain ⟨q1, q2, q3⟩ := ntN_all (ls := ls) h k (by omega)
    obtain ⟨n2, h3, h4⟩ := nt_7 (ls := ls) (node := k) q1 (by rw [q2]; omega) h2
    exact ⟨n2, by omega, h4⟩
theorem hl1_7 {ls i j : Nat} {μh : Nat → Int32} {s : TT} (hi : i < 8) (hj : j < 8) : (hl1 ls μh i j s).1 7 = s.1 7 := by
  unfold hl1
  split
  · unfold hrS
    dsimp only
    repeat (first | rw [if_neg (by omega)] | rfl)
  · rfl
theorem hlJ_7 {ls i : Nat} {μh : Nat → Int32} {s : TT} (hi : i < 8) : ∀ n, n ≤ 8 → (hlJ ls μh i s n).1 7 = s.1 7
  | 0, _ => rfl
  | n + 1, hn => by rw [hlJ, hl1_7 hi (by omega), hlJ_7 hi n (by omega)]
theorem hlI_7 {ls N : Nat} {μh : Nat → Int32} {s : TT} (hN : N ≤ 8) : ∀ n, n ≤ 8 → (hlI ls μh N s n).1 7 = s.1 7
  | 0, _ => rfl
  | n + 1, hn => by rw [hlI, hlJ_7 (by omega) N hN, hlI_7 hN n (by omega)]
theorem tkC_7 {ls : Nat} {s : TT} (h : MI s.1) : (tkC ls s).1 7 = s.1 7 := by
  have h8 := mi_8 h
  unfold tkC
  dsimp only
  rw [rl_fix (by omega) h8]
  unfold tkA
  rw [hlI_7 h8 _ h8]
  show upd s.1 2 (s.1 2 + nI 1) 7 = s.1 7
  exact upd_ne (by decide)
theorem tkF_7 {ls n : Nat} {s : TT} (h : MI s.1) (h7 : s.1 7 = nI n) : ∃ n', n' ≤ n + 8 ∧ (tkF ls s).1 7 = nI n' := by
  obtain ⟨h1, h2⟩ := tkC_all (ls := ls) h
  have h8 := mi_8 h
  have e7 : ∀ s : TT, (esP s.1 64) 7 = s.1 7 := fun s => by
    unfold esP
    rw [if_neg (by omega)]
  unfold tkF
  dsimp only
  rw [e7]
  unfold tkD
  split
  · obtain ⟨n1, q1, q2⟩ := ntN_7 (ls := ls) h1 ((tkC_7 h).trans h7) (nN s.1) (by omega)
    exact ⟨n1, by omega, q2⟩
  · exact ⟨n, by omega, (tkC_7 h).trans h7⟩
theorem tkD_a {ls k : Nat} {s c t : TT} (hC : tkC ls s = c) (hT : ntN ls c k = t) (hk : k = nN s.1) (hdu : k = 0 ∨ du c.1 = true) : tkD ls s = t := by
  unfold tkD
  rw [hC, ← hk]
  rcases hdu with h0 | h1
  · subst h0
    split
    · exact hT
    · exact hT
  · rw [if_pos h1]
    exact hT
theorem tkD_b {ls k : Nat} {s c t : TT} (hC : tkC ls s = c) (hT : ntN ls c k = t) (hdu : k = 0 ∨ du c.1 = true) (hn : ¬ du c.1 = true) : tkD ls s = t := by
  unfold tkD
  rw [hC, if_neg hn]
  rcases hdu with h0 | h1
  · subst h0
    exact hT
  · exact absurd h1 hn
theorem mi_3ne {μ : Nat → Int32} (h : MI μ) : ¬ μ 3 = 0 := fun e => by
  have h1 := ml_3 h
  rw [nA_nI (n := 0) (by decide) e] at h1
  omega

set_option maxRecDepth 100000 in
set_option maxHeartbeats 8000000 in
theorem r_ticks {l : Launch} {w : Wd} (hW : Wi w) {σ : Mem} (μ : Nat → Int32) (d ls nt : Nat) (lo : Int32) (g : Nat → Nat → Int32) (hv : vw 0 σ = μ) (hI : MI μ) (h7 : μ 7 = nI nt) (hnt : nt + 8 < 2 ^ 30) (hcRLs_σ : RLs σ d ls lo) (hcLR_σ : LR 0 σ nt g) : MC l w qX12_ticks 5 [.ref (w.1 0)] σ none (fun σ' => (vw 0 σ' = (tkF ls (μ, d, lo, g)).1) ∧ (RLs σ' (tkF ls (μ, d, lo, g)).2.1 ls (tkF ls (μ, d, lo, g)).2.2.1) ∧ (LR 0 σ' (nA (tkF ls (μ, d, lo, g)).1 7) (tkF ls (μ, d, lo, g)).2.2.2) ∧ (∀ a, (528 ≤ a ∧ (a < 4900 ∨ a = 4901 ∨ 6000 ≤ a)) → σ' a = σ a)) := by
  refine MC.of hW (by decide +kernel) (Nat.le_of_ble_eq_true rfl) (fun X h hQ hnm => ?_)
  have h : Fx X w cX12_ticks 3 RX12 5 := h
  have hQ : Qx X w none none (fun σ' => (vw 0 σ' = (tkF ls (μ, d, lo, g)).1) ∧ (RLs σ' (tkF ls (μ, d, lo, g)).2.1 ls (tkF ls (μ, d, lo, g)).2.2.1) ∧ (LR 0 σ' (nA (tkF ls (μ, d, lo, g)).1 7) (tkF ls (μ, d, lo, g)).2.2.2) ∧ (∀ a, (528 ≤ a ∧ (a < 4900 ∨ a = 4901 ∨ 6000 ≤ a)) → σ' a = σ a)) := hQ
  have hN8 := mi_8 hI
  have hcFR_σ : ∀ a, (528 ≤ a ∧ (a < 4900 ∨ a = 4901 ∨ 6000 ≤ a)) → σ a = σ a := fun _ _ => rfl
  show G X w 3 0 [(0, .ref (w.1 0))] [] σ
  refine g_aload_n h dX12_ticks_0 0 rfl ?_
  refine g_iconst h dX12_ticks_1 (by decide) ?_
  refine g_iconst h dX12_ticks_2 (by decide) ?_
  refine g_cvv (rest := []) h (r_addsP hW 2 (nI 1) μ (by first | exact hv | assumption | fail) (by omega)) lX12_adds mX12_141 (Nat.lt_of_lt_of_le (by decide) (Nat.le_refl _)) (by decide) sc_0 rfl rfl rfl rfl dX12_ticks_3 (fun σ_1 eσ_1 => ?_)
  have eσ_1_a : σ_1 = upd σ (0 + 2) (μ 2 + (nI 1)) := eσ_1
  have hcRLs_σ_1 : RLs σ_1 d ls lo := by rw [eσ_1_a]; exact RLs.fr hcRLs_σ (upd_ne (by omega)) (upd_ne (by omega)) (upd_ne (by omega))
  have hcLR_σ_1 : LR 0 σ_1 nt g := by rw [eσ_1_a]; exact LR.fr hcLR_σ (fun a ha => upd_ne (by first | omega | (simp only [vb] at *; omega)))
  have hcFR_σ_1 : ∀ a, (528 ≤ a ∧ (a < 4900 ∨ a = 4901 ∨ 6000 ≤ a)) → σ_1 a = σ a := by intro a ha; exact Eq.trans (b := σ a) (by rw [eσ_1_a, upd_ne (by first | omega | (simp only [vb] at *; omega))]) (hcFR_σ a ha)
  obtain ⟨μh, eμh⟩ : ∃ μh : Nat → Int32, μh = upd μ 2 (μ 2 + (nI 1)) := ⟨_, rfl⟩
  have hvσ_1 : vw 0 σ_1 = μh := by rw [eσ_1_a, eμh, vw_in (by omega)]; congr 1
  have hIh : MI μh := by rw [eμh]; exact tk2_mi hI
  have hNh : nN μh = nN μ := by rw [eμh]; exact tk2_N
  refine g_iconst h dX12_ticks_6 (by decide) ?_
  refine g_istore_n (L' := [(0, .ref (w.1 0)), (1, .int (nI 0))]) h dX12_ticks_7 rfl (by decide) rfl ?_
  have lp8 : ∀ (k9 : Nat) (k : Nat) (τ : Mem), (k ≤ 8) → (∀ j, j < k → τ (5110 + j) = μh (56 + j) ∧ τ (5110 + 10 + j) = μh (64 + j) ∧ τ (5110 + 20 + j) = μh (48 + j)) → (vw 0 τ = μh) → (RLs τ d ls lo) → (LR 0 τ nt g) → (∀ a, (528 ≤ a ∧ (a < 4900 ∨ a = 4901 ∨ 6000 ≤ a)) → τ a = σ a) → 8 - k < k9 → G X w 3 8 [(0, .ref (w.1 0)), (1, .int (nI k))] [] (τ) := by
    intro k9
    induction k9 with
    | zero => intro k τ hk hh hvτ hcRLs_τ hcLR_τ hcFR_τ hm9; exact absurd hm9 (Nat.not_lt_zero _)
    | succ k9 ih8 =>
      intro k τ hk hh hvτ hcRLs_τ hcLR_τ hcFR_τ hm8
      refine g_iload_n h dX12_ticks_8 1 rfl ?_
      refine g_bipush h dX12_ticks_9 (by decide) ?_
      refine g_icmpN_ge h dX12_ticks_11 (by omega) (by omega) (fun c11 => ?_) (fun c11 => ?_)
      ·
        have hcHT_τ : HT 5110 μh τ := fun j hj => hh j (by omega)
        refine g_iconst h dX12_ticks_62 (by decide) ?_
        refine g_istore_n (L' := [(0, .ref (w.1 0)), (1, .int (nI 0))]) h dX12_ticks_63 rfl (by decide) rfl ?_
        have lp64 : ∀ (k9 : Nat) (i : Nat) (μ1 : Nat → Int32) (d1 : Nat) (lo1 : Int32) (τ1 : Mem), (hlI ls μh (nN μ) (μh, d, lo, g) i = (μ1, d1, lo1, g)) → (i ≤ nN μ) → (vw 0 τ1 = μ1) → (RLs τ1 d1 ls lo1) → (LR 0 τ1 nt g) → (∀ a, (528 ≤ a ∧ (a < 4900 ∨ a = 4901 ∨ 6000 ≤ a)) → τ1 a = σ a) → (HT 5110 μh τ1) → nN μ - i < k9 → G X w 3 64 [(0, .ref (w.1 0)), (1, .int (nI i))] [] (τ1) := by
          intro k9
          induction k9 with
          | zero => intro i μ1 d1 lo1 τ1 hT hi hvτ1 hcRLs_τ1 hcLR_τ1 hcFR_τ1 hcHT_τ1 hm9; exact absurd hm9 (Nat.not_lt_zero _)
          | succ k9 ih64 =>
            intro i μ1 d1 lo1 τ1 hT hi hvτ1 hcRLs_τ1 hcLR_τ1 hcFR_τ1 hcHT_τ1 hm64
            have hA1 := hlI_all (ls := ls) (N := nN μ) (μh := μh) (s := (μh, d, lo, g)) hIh hIh rfl hNh.symm i hi
            rw [hT] at hA1
            have hI1 : MI μ1 := hA1.1
            have hN1 : nN μ1 = nN μ := hA1.2.1.trans hNh
            refine g_iload_n h dX12_ticks_64 1 rfl ?_
            refine g_aload_n h dX12_ticks_65 0 rfl ?_
            refine g_iconst h dX12_ticks_66 (by decide) ?_
            refine g_cvpi (rest := [.int (nI i)]) h (r_of hW 0 μ1 (by assumption) (by omega)) lX12_of mX12_61 (Nat.lt_of_lt_of_le (by decide) (Nat.le_refl _)) (by decide) sc_0 rfl rfl rfl rfl dX12_ticks_67 ?_
            refine g_top (y := nI (nN μ1)) (mi_0 (by assumption)) ?_
            refine g_icmpN_ge h dX12_ticks_70 (by omega) (by omega) (fun c70 => ?_) (fun c70 => ?_)
            ·
              have hEA : tkA ls (μ, d, lo, g) = (μ1, d1, lo1, g) := by unfold tkA; dsimp only; rw [← eμh, ← hT, show i = nN μ from by omega]
              refine g_iconst h dX12_ticks_115 (by decide) ?_
              refine g_istore_n (L' := [(0, .ref (w.1 0)), (1, .int (nI 0))]) h dX12_ticks_116 rfl (by decide) rfl ?_
              have lp117 : ∀ (k9 : Nat) (k2 : Nat) (μr : Nat → Int32) (τ3 : Mem), (μr = rlP μ1 k2 0) → (k2 ≤ nN μ) → (vw 0 τ3 = μr) → (RLs τ3 d1 ls lo1) → (LR 0 τ3 nt g) → (∀ a, (528 ≤ a ∧ (a < 4900 ∨ a = 4901 ∨ 6000 ≤ a)) → τ3 a = σ a) → nN μ - k2 < k9 → G X w 3 117 [(0, .ref (w.1 0)), (1, .int (nI k2))] [] (τ3) := by
                intro k9
                induction k9 with
                | zero => intro k2 μr τ3 hr hk2 hvτ3 hcRLs_τ3 hcLR_τ3 hcFR_τ3 hm9; exact absurd hm9 (Nat.not_lt_zero _)
                | succ k9 ih117 =>
                  intro k2 μr τ3 hr hk2 hvτ3 hcRLs_τ3 hcLR_τ3 hcFR_τ3 hm117
                  have hIr : MI μr := by rw [hr]; exact rl_mik hI1 (by omega) (by omega)
                  have hNr : nN μr = nN μ := by rw [hr]; exact (rl_ck hI1 (by omega)).1.trans hN1
                  refine g_iload_n h dX12_ticks_117 1 rfl ?_
                  refine g_aload_n h dX12_ticks_118 0 rfl ?_
                  refine g_iconst h dX12_ticks_119 (by decide) ?_
                  refine g_cvpi (rest := [.int (nI k2)]) h (r_of hW 0 μr (by assumption) (by omega)) lX12_of mX12_61 (Nat.lt_of_lt_of_le (by decide) (Nat.le_refl _)) (by decide) sc_0 rfl rfl rfl rfl dX12_ticks_120 ?_
                  refine g_top (y := nI (nN μr)) (mi_0 (by assumption)) ?_
                  refine g_icmpN_ge h dX12_ticks_123 (by omega) (by omega) (fun c123 => ?_) (fun c123 => ?_)
                  ·
                    refine g_iconst h dX12_ticks_153 (by decide) ?_
                    refine g_istore_n (L' := [(0, .ref (w.1 0)), (1, .int (nI 0))]) h dX12_ticks_154 rfl (by decide) rfl ?_
                    have lp155 : ∀ (k9 : Nat) (i2 : Nat) (μc : Nat → Int32) (τ4 : Mem), (μc = rlP μ1 (nN μ) (8 * i2)) → (i2 ≤ nN μ) → (vw 0 τ4 = μc) → (RLs τ4 d1 ls lo1) → (LR 0 τ4 nt g) → (∀ a, (528 ≤ a ∧ (a < 4900 ∨ a = 4901 ∨ 6000 ≤ a)) → τ4 a = σ a) → nN μ - i2 < k9 → G X w 3 155 [(0, .ref (w.1 0)), (1, .int (nI i2))] [] (τ4) := by
                      intro k9
                      induction k9 with
                      | zero => intro i2 μc τ4 hc hi2 hvτ4 hcRLs_τ4 hcLR_τ4 hcFR_τ4 hm9; exact absurd hm9 (Nat.not_lt_zero _)
                      | succ k9 ih155 =>
                        intro i2 μc τ4 hc hi2 hvτ4 hcRLs_τ4 hcLR_τ4 hcFR_τ4 hm155
                        have hIq : MI μc := by rw [hc]; exact rl_mik hI1 (by omega) (by omega)
                        have hNq : nN μc = nN μ := by rw [hc]; exact (rl_ck hI1 (by omega)).1.trans hN1
                        refine g_iload_n h dX12_ticks_155 1 rfl ?_
                        refine g_aload_n h dX12_ticks_156 0 rfl ?_
                        refine g_iconst h dX12_ticks_157 (by decide) ?_
                        refine g_cvpi (rest := [.int (nI i2)]) h (r_of hW 0 μc (by assumption) (by omega)) lX12_of mX12_61 (Nat.lt_of_lt_of_le (by decide) (Nat.le_refl _)) (by decide) sc_0 rfl rfl rfl rfl dX12_ticks_158 ?_
                        refine g_top (y := nI (nN μc)) (mi_0 (by assumption)) ?_
                        refine g_icmpN_ge h dX12_ticks_161 (by omega) (by omega) (fun c161 => ?_) (fun c161 => ?_)
                        ·
                          have hEC : tkC ls (μ, d, lo, g) = (μc, d1, lo1, g) := by unfold tkC; rw [hEA]; dsimp only; rw [hc, show i2 = nN μ from by omega, ← hN1, rl_end hI1]
                          have hIc : MI μc := by rw [hc]; exact rl_mik hI1 (by omega) (by omega)
                          have hNc : nN μc = nN μ := by rw [hc]; exact (rl_ck hI1 (by omega)).1.trans hN1
                          refine g_iconst h dX12_ticks_223 (by decide) ?_
                          refine g_istore_n (L' := [(0, .ref (w.1 0)), (1, .int (nI 0))]) h dX12_ticks_224 rfl (by decide) rfl ?_
                          have lp225 : ∀ (k9 : Nat) (k3 : Nat) (μ3 : Nat → Int32) (d3 : Nat) (lo3 : Int32) (n3 : Nat) (g3 : Nat → Nat → Int32) (τ6 : Mem), (ntN ls (μc, d1, lo1, g) k3 = (μ3, d3, lo3, g3)) → (k3 ≤ nN μ) → (k3 = 0 ∨ du μc = true) → (μ3 7 = nI n3) → (n3 ≤ nt + k3) → (vw 0 τ6 = μ3) → (RLs τ6 d3 ls lo3) → (LR 0 τ6 n3 g3) → (∀ a, (528 ≤ a ∧ (a < 4900 ∨ a = 4901 ∨ 6000 ≤ a)) → τ6 a = σ a) → nN μ - k3 < k9 → G X w 3 225 [(0, .ref (w.1 0)), (1, .int (nI k3))] [] (τ6) := by
                            intro k9
                            induction k9 with
                            | zero => intro k3 μ3 d3 lo3 n3 g3 τ6 hT3 hk3 hdu h73 hn3 hvτ6 hcRLs_τ6 hcLR_τ6 hcFR_τ6 hm9; exact absurd hm9 (Nat.not_lt_zero _)
                            | succ k9 ih225 =>
                              intro k3 μ3 d3 lo3 n3 g3 τ6 hT3 hk3 hdu h73 hn3 hvτ6 hcRLs_τ6 hcLR_τ6 hcFR_τ6 hm225
                              have hA3 := ntN_all (ls := ls) (s := (μc, d1, lo1, g)) hIc k3 (by rw [hNc]; exact hk3)
                              rw [hT3] at hA3
                              have hI3 : MI μ3 := hA3.1
                              have hN3 : nN μ3 = nN μ := hA3.2.1.trans hNc
                              have hdu3 : du μ3 = du μc := by unfold du; rw [show μ3 2 = μc 2 from hA3.2.2 2 (by omega) (by omega) (by omega), show μ3 3 = μc 3 from hA3.2.2 3 (by omega) (by omega) (by omega)]
                              refine g_iload_n h dX12_ticks_225 1 rfl ?_
                              refine g_aload_n h dX12_ticks_226 0 rfl ?_
                              refine g_iconst h dX12_ticks_227 (by decide) ?_
                              refine g_cvpi (rest := [.int (nI k3)]) h (r_of hW 0 μ3 (by assumption) (by omega)) lX12_of mX12_61 (Nat.lt_of_lt_of_le (by decide) (Nat.le_refl _)) (by decide) sc_0 rfl rfl rfl rfl dX12_ticks_228 ?_
                              refine g_top (y := nI (nN μ3)) (mi_0 (by assumption)) ?_
                              refine g_icmpN_ge h dX12_ticks_231 (by omega) (by omega) (fun c231 => ?_) (fun c231 => ?_)
                              ·
                                have hED : tkD ls (μ, d, lo, g) = (μ3, d3, lo3, g3) := tkD_a hEC hT3 (show k3 = nN μ by omega) hdu
                                refine g_sipush h dX12_ticks_278 (by decide) ?_
                                refine g_istore_n (L' := [(0, .ref (w.1 0)), (1, .int (nI 208))]) h dX12_ticks_281 rfl (by decide) rfl ?_
                                have lp282 : ∀ (k9 : Nat) (μe : Nat → Int32) (τ7 : Mem) (k : Nat), (μe = esP μ3 k) → (k ≤ 64) → (vw 0 τ7 = μe) → (RLs τ7 d3 ls lo3) → (LR 0 τ7 n3 g3) → (∀ a, (528 ≤ a ∧ (a < 4900 ∨ a = 4901 ∨ 6000 ≤ a)) → τ7 a = σ a) → 64 - k < k9 → G X w 3 282 [(0, .ref (w.1 0)), (1, .int (nI (208 + k)))] [] (τ7) := by
                                  intro k9
                                  induction k9 with
                                  | zero => intro μe τ7 k he hk4 hvτ7 hcRLs_τ7 hcLR_τ7 hcFR_τ7 hm9; exact absurd hm9 (Nat.not_lt_zero _)
                                  | succ k9 ih282 =>
                                    intro μe τ7 k he hk4 hvτ7 hcRLs_τ7 hcLR_τ7 hcFR_τ7 hm282
                                    have hIe : MI μe := by rw [he]; exact es_mi hI3 (by omega)
                                    refine g_iload_n h dX12_ticks_282 1 rfl ?_
                                    refine g_sipush h dX12_ticks_283 (by decide) ?_
                                    refine g_icmpN_ge h dX12_ticks_286 (by omega) (by omega) (fun c286 => ?_) (fun c286 => ?_)
                                    ·
                                      exact g_vret h hQ dX12_ticks_311 rfl (by exact ⟨(by rw [hvτ7, he, show k = 64 from by omega]; simp only [tkF, hED]), (by simp only [tkF, hED]; exact hcRLs_τ7), (by simp only [tkF, hED]; rw [show nA (esP μ3 64) 7 = n3 from nA_nI (by omega) (by unfold esP; rw [if_neg (by omega)]; exact h73)]; exact hcLR_τ7), (by exact hcFR_τ7)⟩)
                                    ·
                                      refine g_aload_n h dX12_ticks_289 0 rfl ?_
                                      refine g_iload_n h dX12_ticks_290 1 rfl ?_
                                      refine g_iconst h dX12_ticks_291 (by decide) ?_
                                      refine g_aload_n h dX12_ticks_292 0 rfl ?_
                                      refine g_iload_n h dX12_ticks_293 1 rfl ?_
                                      refine g_cvpi (rest := [.int (nI 0), .int (nI (208 + k)), .ref (w.1 0)]) h (r_of hW (208 + k) μe (by assumption) (by omega)) lX12_of mX12_61 (Nat.lt_of_lt_of_le (by decide) (Nat.le_refl _)) (by decide) sc_0 rfl rfl rfl rfl dX12_ticks_294 ?_
                                      refine g_top (y := nI (nA μe (208 + k))) (mi_208 (by assumption) (by omega)) ?_
                                      have b9_294 : nA μe (208 + k) < 100 := mb_208 (by assumption) (by omega)
                                      refine g_iconst h dX12_ticks_297 (by decide) ?_
                                      refine g_isub h dX12_ticks_298  ?_
                                      refine g_cspi (rest := [.int (nI (208 + k)), .ref (w.1 0)]) h (j_mx1 hW (nA μe (208 + k)) (by omega)) lJ9_max_7cf53 mX12_173 (Nat.lt_of_lt_of_le (by decide) (Nat.le_refl _)) (by decide) rfl rfl rfl dX12_ticks_299 ?_
                                      refine g_cvv (rest := []) h (r_puts hW (208 + k) (nI ((nA μe (208 + k)) - 1)) (by omega)) lX12_puts mX12_57 (Nat.lt_of_lt_of_le (by decide) (Nat.le_refl _)) (by decide) sc_0 rfl rfl rfl rfl dX12_ticks_302 (fun σ_2 eσ_2 => ?_)
                                      have eσ_2_a : σ_2 = upd (τ7) (0 + (208 + k)) (nI ((nA μe (208 + k)) - 1)) := eσ_2
                                      have hcRLs_σ_2 : RLs σ_2 d3 ls lo3 := by rw [eσ_2_a]; exact RLs.fr hcRLs_τ7 (upd_ne (by omega)) (upd_ne (by omega)) (upd_ne (by omega))
                                      have hcLR_σ_2 : LR 0 σ_2 n3 g3 := by rw [eσ_2_a]; exact LR.fr hcLR_τ7 (fun a ha => upd_ne (by first | omega | (simp only [vb] at *; omega)))
                                      have hcFR_σ_2 : ∀ a, (528 ≤ a ∧ (a < 4900 ∨ a = 4901 ∨ 6000 ≤ a)) → σ_2 a = σ a := by intro a ha; exact Eq.trans (b := (τ7) a) (by rw [eσ_2_a, upd_ne (by first | omega | (simp only [vb] at *; omega))]) (hcFR_τ7 a ha)
                                      obtain ⟨μ_3, eμ_3⟩ : ∃ μ_3 : Nat → Int32, μ_3 = upd μe (208 + k) (nI ((nA μe (208 + k)) - 1)) := ⟨_, rfl⟩
                                      have hvσ_2 : vw 0 σ_2 = μ_3 := by rw [eσ_2_a, eμ_3, vw_in (by omega)]; congr 1
                                      refine g_iincN (b := 1) (L' := [(0, .ref (w.1 0)), (1, .int (nI (208 + k + 1)))]) h dX12_ticks_305 1 rfl rfl (by decide) (by decide) rfl ?_
                                      refine g_goto h dX12_ticks_308 ?_
                                      exact ih282 μ_3 σ_2 (k + 1) (by rw [eμ_3]; exact es_r he) (by omega) (by first | exact hvσ_2 | assumption | fail | fail) (by first | exact hcRLs_σ_2 | assumption | fail | fail) (by first | exact hcLR_σ_2 | assumption | fail | fail) (by first | exact hcFR_σ_2 | assumption | fail | fail) (by omega)
                                exact lp282 (_) μ3 (τ6) 0 (by exact (es_0 _).symm) (by omega) (by first | exact hvτ6 | assumption | fail | fail) (by first | exact hcRLs_τ6 | assumption | fail | fail) (by first | exact hcLR_τ6 | assumption | fail | fail) (by first | exact hcFR_τ6 | assumption | fail | fail) (Nat.lt_succ_self _)
                              ·
                                refine g_aload_n h dX12_ticks_234 0 rfl ?_
                                refine g_iconst h dX12_ticks_235 (by decide) ?_
                                refine g_cvpi (rest := []) h (r_of hW 2 μ3 (by assumption) (by omega)) lX12_of mX12_61 (Nat.lt_of_lt_of_le (by decide) (Nat.le_refl _)) (by decide) sc_0 rfl rfl rfl rfl dX12_ticks_236 ?_
                                refine g_aload_n h dX12_ticks_239 0 rfl ?_
                                refine g_iconst h dX12_ticks_240 (by decide) ?_
                                refine g_cvpi (rest := [.int (μ3 2)]) h (r_of hW 3 μ3 (by assumption) (by omega)) lX12_of mX12_61 (Nat.lt_of_lt_of_le (by decide) (Nat.le_refl _)) (by decide) sc_0 rfl rfl rfl rfl dX12_ticks_241 ?_
                                refine g_top (y := (μ3 3)) rfl ?_
                                refine g_irem h dX12_ticks_244 (by exact mi_3ne hI3) ?_
                                refine g_if_ne h dX12_ticks_245 (fun c245 => ?_) (fun c245 => ?_)
                                ·
                                  have hED : tkD ls (μ, d, lo, g) = (μ3, d3, lo3, g3) := tkD_b hEC hT3 hdu (show ¬ du μc = true from fun q => c245 (of_decide_eq_true (hdu3.trans q)))
                                  refine g_sipush h dX12_ticks_278 (by decide) ?_
                                  refine g_istore_n (L' := [(0, .ref (w.1 0)), (1, .int (nI 208))]) h dX12_ticks_281 rfl (by decide) rfl ?_
                                  have lp282 : ∀ (k9 : Nat) (μe : Nat → Int32) (τ7 : Mem) (k : Nat), (μe = esP μ3 k) → (k ≤ 64) → (vw 0 τ7 = μe) → (RLs τ7 d3 ls lo3) → (LR 0 τ7 n3 g3) → (∀ a, (528 ≤ a ∧ (a < 4900 ∨ a = 4901 ∨ 6000 ≤ a)) → τ7 a = σ a) → 64 - k < k9 → G X w 3 282 [(0, .ref (w.1 0)), (1, .int (nI (208 + k)))] [] (τ7) := by
                                    intro k9
                                    induction k9 with
                                    | zero => intro μe τ7 k he hk4 hvτ7 hcRLs_τ7 hcLR_τ7 hcFR_τ7 hm9; exact absurd hm9 (Nat.not_lt_zero _)
                                    | succ k9 ih282 =>
                                      intro μe τ7 k he hk4 hvτ7 hcRLs_τ7 hcLR_τ7 hcFR_τ7 hm282
                                      have hIe : MI μe := by rw [he]; exact es_mi hI3 (by omega)
                                      refine g_iload_n h dX12_ticks_282 1 rfl ?_
                                      refine g_sipush h dX12_ticks_283 (by decide) ?_
                                      refine g_icmpN_ge h dX12_ticks_286 (by omega) (by omega) (fun c286 => ?_) (fun c286 => ?_)
                                      ·
                                        exact g_vret h hQ dX12_ticks_311 rfl (by exact ⟨(by rw [hvτ7, he, show k = 64 from by omega]; simp only [tkF, hED]), (by simp only [tkF, hED]; exact hcRLs_τ7), (by simp only [tkF, hED]; rw [show nA (esP μ3 64) 7 = n3 from nA_nI (by omega) (by unfold esP; rw [if_neg (by omega)]; exact h73)]; exact hcLR_τ7), (by exact hcFR_τ7)⟩)
                                      ·
                                        refine g_aload_n h dX12_ticks_289 0 rfl ?_
                                        refine g_iload_n h dX12_ticks_290 1 rfl ?_
                                        refine g_iconst h dX12_ticks_291 (by decide) ?_
                                        refine g_aload_n h dX12_ticks_292 0 rfl ?_
                                        refine g_iload_n h dX12_ticks_293 1 rfl ?_
                                        refine g_cvpi (rest := [.int (nI 0), .int (nI (208 + k)), .ref (w.1 0)]) h (r_of hW (208 + k) μe (by assumption) (by omega)) lX12_of mX12_61 (Nat.lt_of_lt_of_le (by decide) (Nat.le_refl _)) (by decide) sc_0 rfl rfl rfl rfl dX12_ticks_294 ?_
                                        refine g_top (y := nI (nA μe (208 + k))) (mi_208 (by assumption) (by omega)) ?_
                                        have b9_294 : nA μe (208 + k) < 100 := mb_208 (by assumption) (by omega)
                                        refine g_iconst h dX12_ticks_297 (by decide) ?_
                                        refine g_isub h dX12_ticks_298  ?_
                                        refine g_cspi (rest := [.int (nI (208 + k)), .ref (w.1 0)]) h (j_mx1 hW (nA μe (208 + k)) (by omega)) lJ9_max_7cf53 mX12_173 (Nat.lt_of_lt_of_le (by decide) (Nat.le_refl _)) (by decide) rfl rfl rfl dX12_ticks_299 ?_
                                        refine g_cvv (rest := []) h (r_puts hW (208 + k) (nI ((nA μe (208 + k)) - 1)) (by omega)) lX12_puts mX12_57 (Nat.lt_of_lt_of_le (by decide) (Nat.le_refl _)) (by decide) sc_0 rfl rfl rfl rfl dX12_ticks_302 (fun σ_4 eσ_4 => ?_)
                                        have eσ_4_a : σ_4 = upd (τ7) (0 + (208 + k)) (nI ((nA μe (208 + k)) - 1)) := eσ_4
                                        have hcRLs_σ_4 : RLs σ_4 d3 ls lo3 := by rw [eσ_4_a]; exact RLs.fr hcRLs_τ7 (upd_ne (by omega)) (upd_ne (by omega)) (upd_ne (by omega))
                                        have hcLR_σ_4 : LR 0 σ_4 n3 g3 := by rw [eσ_4_a]; exact LR.fr hcLR_τ7 (fun a ha => upd_ne (by first | omega | (simp only [vb] at *; omega)))
                                        have hcFR_σ_4 : ∀ a, (528 ≤ a ∧ (a < 4900 ∨ a = 4901 ∨ 6000 ≤ a)) → σ_4 a = σ a := by intro a ha; exact Eq.trans (b := (τ7) a) (by rw [eσ_4_a, upd_ne (by first | omega | (simp only [vb] at *; omega))]) (hcFR_τ7 a ha)
                                        obtain ⟨μ_5, eμ_5⟩ : ∃ μ_5 : Nat → Int32, μ_5 = upd μe (208 + k) (nI ((nA μe (208 + k)) - 1)) := ⟨_, rfl⟩
                                        have hvσ_4 : vw 0 σ_4 = μ_5 := by rw [eσ_4_a, eμ_5, vw_in (by omega)]; congr 1
                                        refine g_iincN (b := 1) (L' := [(0, .ref (w.1 0)), (1, .int (nI (208 + k + 1)))]) h dX12_ticks_305 1 rfl rfl (by decide) (by decide) rfl ?_
                                        refine g_goto h dX12_ticks_308 ?_
                                        exact ih282 μ_5 σ_4 (k + 1) (by rw [eμ_5]; exact es_r he) (by omega) (by first | exact hvσ_4 | assumption | fail | fail) (by first | exact hcRLs_σ_4 | assumption | fail | fail) (by first | exact hcLR_σ_4 | assumption | fail | fail) (by first | exact hcFR_σ_4 | assumption | fail | fail) (by omega)
                                  exact lp282 (_) μ3 (τ6) 0 (by exact (es_0 _).symm) (by omega) (by first | exact hvτ6 | assumption | fail | fail) (by first | exact hcRLs_τ6 | assumption | fail | fail) (by first | exact hcLR_τ6 | assumption | fail | fail) (by first | exact hcFR_τ6 | assumption | fail | fail) (Nat.lt_succ_self _)
                                ·
                                  have hdq : du μc = true := hdu3.symm.trans (decide_eq_true c245)
                                  refine g_aload_n h dX12_ticks_248 0 rfl ?_
                                  refine g_iload_n h dX12_ticks_249 1 rfl ?_
                                  refine g_cvpi (rest := []) h (r_isOn hW k3 μ3 (by assumption) (by omega)) lX12_isOn mX12_114 (Nat.lt_of_lt_of_le (by decide) (Nat.le_refl _)) (by decide) sc_0 rfl rfl rfl rfl dX12_ticks_250 ?_
                                  refine g_ifB_eq h dX12_ticks_253 (fun c253 => ?_) (fun c253 => ?_)
                                  ·
                                    refine g_iincN (b := 1) (L' := [(0, .ref (w.1 0)), (1, .int (nI (k3 + 1)))]) h dX12_ticks_272 1 rfl rfl (by decide) (by decide) rfl ?_
                                    refine g_goto h dX12_ticks_275 ?_
                                    exact ih225 (k3 + 1) μ3 d3 lo3 n3 g3 (τ6) (by rw [ntN, hT3]; simp [nt1, c11, c70, c123, c161, c231, c245, c253, Nat.add_zero]) (by omega) (by right; exact hdq) (by first | assumption | (rw [Nat.add_zero, upd_ne (by omega), upd_eq, (FW.all (rn_mi hI3 (by omega)) (by rw [rn_N (by omega)]; omega) (by rw [rn_fix (by omega) (by omega)]; assumption)).2.1 7 (by omega) (by omega), rn_fix (by omega) (by omega), h73]; exact nI_p1.symm) | fail | fail) (by omega) (by first | exact hvτ6 | assumption | fail | fail) (by first | exact hcRLs_τ6 | assumption | fail | fail) (by first | exact hcLR_τ6 | assumption | fail | fail) (by first | exact hcFR_τ6 | assumption | fail | fail) (by omega)
                                  ·
                                    refine g_aload_n h dX12_ticks_256 0 rfl ?_
                                    refine g_bipush h dX12_ticks_257 (by decide) ?_
                                    refine g_iload_n h dX12_ticks_259 1 rfl ?_
                                    refine g_iaddN h dX12_ticks_260  ?_
                                    refine g_cvpi (rest := []) h (r_of hW (72 + k3) μ3 (by assumption) (by omega)) lX12_of mX12_61 (Nat.lt_of_lt_of_le (by decide) (Nat.le_refl _)) (by decide) sc_0 rfl rfl rfl rfl dX12_ticks_261 ?_
                                    refine g_if_eq h dX12_ticks_264 (fun c264 => ?_) (fun c264 => ?_)
                                    ·
                                      refine g_iincN (b := 1) (L' := [(0, .ref (w.1 0)), (1, .int (nI (k3 + 1)))]) h dX12_ticks_272 1 rfl rfl (by decide) (by decide) rfl ?_
                                      refine g_goto h dX12_ticks_275 ?_
                                      exact ih225 (k3 + 1) μ3 d3 lo3 n3 g3 (τ6) (by rw [ntN, hT3]; simp [nt1, c11, c70, c123, c161, c231, c245, c253, c264, Nat.add_zero]) (by omega) (by right; exact hdq) (by first | assumption | (rw [Nat.add_zero, upd_ne (by omega), upd_eq, (FW.all (rn_mi hI3 (by omega)) (by rw [rn_N (by omega)]; omega) (by rw [rn_fix (by omega) (by omega)]; assumption)).2.1 7 (by omega) (by omega), rn_fix (by omega) (by omega), h73]; exact nI_p1.symm) | fail | fail) (by omega) (by first | exact hvτ6 | assumption | fail | fail) (by first | exact hcRLs_τ6 | assumption | fail | fail) (by first | exact hcLR_τ6 | assumption | fail | fail) (by first | exact hcFR_τ6 | assumption | fail | fail) (by omega)
                                    ·
                                      refine g_aload_n h dX12_ticks_267 0 rfl ?_
                                      refine g_iload_n h dX12_ticks_268 1 rfl ?_
                                      refine g_cvv (rest := []) h (r_notices hW k3 μ3 d3 ls n3 lo3 g3 (by first | exact hvτ6 | assumption | fail) (by assumption) (by omega) (by first | assumption | simpa using ‹_› | fail) (by omega) (by first | exact hcRLs_τ6 | assumption | fail) (by first | exact hcLR_τ6 | assumption | fail)) lX12_notices mX12_169 (Nat.lt_of_lt_of_le (by decide) (Nat.le_refl _)) (by decide) sc_0 rfl rfl rfl rfl dX12_ticks_269 (fun σ_6 eσ_6 => ?_)
                                      obtain ⟨eσ_6_a, eσ_6_b, eσ_6_c, eσ_6_d⟩ := eσ_6
                                      have eσ_6_a : vw 0 σ_6 = upd (upd (flS k3 false true ls (rnw μ3 k3) d3 lo3).2.2.2.2.1 7 ((flS k3 false true ls (rnw μ3 k3) d3 lo3).2.2.2.2.1 7 + nI 1)) 8 ((flS k3 false true ls (rnw μ3 k3) d3 lo3).2.2.2.2.1 8 + nI (flS k3 false true ls (rnw μ3 k3) d3 lo3).2.1) := eσ_6_a
                                      have eσ_6_b : RLs σ_6 (flS k3 false true ls (rnw μ3 k3) d3 lo3).2.2.2.2.2.1 ls (flS k3 false true ls (rnw μ3 k3) d3 lo3).2.2.2.2.2.2 := eσ_6_b
                                      have eσ_6_c : LR 0 σ_6 (n3 + 1) (pu g3 (μ3 2) (nI k3) (nI (pc (flS k3 false true ls (rnw μ3 k3) d3 lo3).2.2.2.1)) (nI (flS k3 false true ls (rnw μ3 k3) d3 lo3).2.1)) := eσ_6_c
                                      have eσ_6_d : ∀ a, (528 ≤ a ∧ (a < 4900 ∨ a = 4901 ∨ 6000 ≤ a)) → σ_6 a = (τ6) a := eσ_6_d
                                      have hcRLs_σ_6 : RLs σ_6 (flS k3 false true ls (rnw μ3 k3) d3 lo3).2.2.2.2.2.1 ls (flS k3 false true ls (rnw μ3 k3) d3 lo3).2.2.2.2.2.2 := eσ_6_b
                                      have hcLR_σ_6 : LR 0 σ_6 (n3 + 1) (pu g3 (μ3 2) (nI k3) (nI (pc (flS k3 false true ls (rnw μ3 k3) d3 lo3).2.2.2.1)) (nI (flS k3 false true ls (rnw μ3 k3) d3 lo3).2.1)) := eσ_6_c
                                      have hcFR_σ_6 : ∀ a, (528 ≤ a ∧ (a < 4900 ∨ a = 4901 ∨ 6000 ≤ a)) → σ_6 a = σ a := by intro a ha; exact Eq.trans (b := (τ6) a) (eσ_6_d a (by first | omega | (simp only [vb] at *; omega))) (hcFR_τ6 a ha)
                                      obtain ⟨μ_7, eμ_7⟩ : ∃ μ_7 : Nat → Int32, μ_7 = upd (upd (flS k3 false true ls (rnw μ3 k3) d3 lo3).2.2.2.2.1 7 ((flS k3 false true ls (rnw μ3 k3) d3 lo3).2.2.2.2.1 7 + nI 1)) 8 ((flS k3 false true ls (rnw μ3 k3) d3 lo3).2.2.2.2.1 8 + nI (flS k3 false true ls (rnw μ3 k3) d3 lo3).2.1) := ⟨_, rfl⟩
                                      have hvσ_6 : vw 0 σ_6 = μ_7 := by rw [eμ_7]; exact eσ_6_a
                                      refine g_iincN (b := 1) (L' := [(0, .ref (w.1 0)), (1, .int (nI (k3 + 1)))]) h dX12_ticks_272 1 rfl rfl (by decide) (by decide) rfl ?_
                                      refine g_goto h dX12_ticks_275 ?_
                                      exact ih225 (k3 + 1) μ_7 ((flS k3 false true ls (rnw μ3 k3) d3 lo3).2.2.2.2.2.1) ((flS k3 false true ls (rnw μ3 k3) d3 lo3).2.2.2.2.2.2) (n3 + 1) (pu g3 (μ3 2) (nI k3) (nI (pc (flS k3 false true ls (rnw μ3 k3) d3 lo3).2.2.2.1)) (nI (flS k3 false true ls (rnw μ3 k3) d3 lo3).2.1)) σ_6 (by rw [ntN, hT3]; simp [nt1, c11, c70, c123, c161, c231, c245, c253, c264, eμ_7]) (by omega) (by right; exact hdq) (by first | assumption | (rw [eμ_7, upd_ne (by omega), upd_eq, (FW.all (rn_mi hI3 (by omega)) (by rw [rn_N (by omega)]; omega) (by rw [rn_fix (by omega) (by omega)]; assumption)).2.1 7 (by omega) (by omega), rn_fix (by omega) (by omega), h73]; exact nI_p1.symm) | fail | fail) (by omega) (by first | exact hvσ_6 | assumption | fail | fail) (by first | exact hcRLs_σ_6 | assumption | fail | fail) (by first | exact hcLR_σ_6 | assumption | fail | fail) (by first | exact hcFR_σ_6 | assumption | fail | fail) (by omega)
                          exact lp225 (_) 0 μc d1 lo1 nt g (τ4) (by rfl) (by omega) (by left; rfl) (by rw [hc, rl_fix (by omega) (by omega), ← h7]; have h17 := hlI_7 (ls := ls) (μh := μh) (s := (μh, d, lo, g)) hN8 i (by omega); rw [hT] at h17; refine h17.trans ?_; rw [eμh]; show upd μ 2 (μ 2 + nI 1) 7 = μ 7; exact upd_ne (by decide)) (by omega) (by first | exact hvτ4 | assumption | fail | fail) (by first | exact hcRLs_τ4 | assumption | fail | fail) (by first | exact hcLR_τ4 | assumption | fail | fail) (by first | exact hcFR_τ4 | assumption | fail | fail) (Nat.lt_succ_self _)
                        ·
                          refine g_iconst h dX12_ticks_164 (by decide) ?_
                          refine g_istore_n (L' := [(0, .ref (w.1 0)), (1, .int (nI i2)), (2, .int (nI 0))]) h dX12_ticks_165 rfl (by decide) rfl ?_
                          have lp166 : ∀ (k9 : Nat) (j2 : Nat) (μb : Nat → Int32) (τ5 : Mem), (μb = rlP μ1 (nN μ) (8 * i2 + j2)) → (j2 ≤ nN μ) → (vw 0 τ5 = μb) → (RLs τ5 d1 ls lo1) → (LR 0 τ5 nt g) → (∀ a, (528 ≤ a ∧ (a < 4900 ∨ a = 4901 ∨ 6000 ≤ a)) → τ5 a = σ a) → nN μ - j2 < k9 → G X w 3 166 [(0, .ref (w.1 0)), (1, .int (nI i2)), (2, .int (nI j2))] [] (τ5) := by
                            intro k9
                            induction k9 with
                            | zero => intro j2 μb τ5 hb hj2 hvτ5 hcRLs_τ5 hcLR_τ5 hcFR_τ5 hm9; exact absurd hm9 (Nat.not_lt_zero _)
                            | succ k9 ih166 =>
                              intro j2 μb τ5 hb hj2 hvτ5 hcRLs_τ5 hcLR_τ5 hcFR_τ5 hm166
                              have hIb : MI μb := by rw [hb]; exact rl_mik hI1 (by omega) (by omega)
                              have hNb : nN μb = nN μ := by rw [hb]; exact (rl_ck hI1 (by omega)).1.trans hN1
                              refine g_iload_n h dX12_ticks_166 2 rfl ?_
                              refine g_aload_n h dX12_ticks_167 0 rfl ?_
                              refine g_iconst h dX12_ticks_168 (by decide) ?_
                              refine g_cvpi (rest := [.int (nI j2)]) h (r_of hW 0 μb (by assumption) (by omega)) lX12_of mX12_61 (Nat.lt_of_lt_of_le (by decide) (Nat.le_refl _)) (by decide) sc_0 rfl rfl rfl rfl dX12_ticks_169 ?_
                              refine g_top (y := nI (nN μb)) (mi_0 (by assumption)) ?_
                              refine g_icmpN_ge h dX12_ticks_172 (by omega) (by omega) (fun c172 => ?_) (fun c172 => ?_)
                              ·
                                refine g_iincN (b := 1) (L' := [(0, .ref (w.1 0)), (1, .int (nI (i2 + 1))), (2, .int (nI j2))]) h dX12_ticks_217 1 rfl rfl (by decide) (by decide) rfl ?_
                                refine g_goto h dX12_ticks_220 ?_
                                exact g_sub [0, 1] rfl (ih155 (i2 + 1) μb (τ5) (by rw [hb, show j2 = nN μ1 from by omega]; exact rl_row hI1 (by omega) (by omega)) (by omega) (by first | exact hvτ5 | assumption | fail | fail) (by first | exact hcRLs_τ5 | assumption | fail | fail) (by first | exact hcLR_τ5 | assumption | fail | fail) (by first | exact hcFR_τ5 | assumption | fail | fail) (by omega))
                              ·
                                refine g_aload_n h dX12_ticks_175 0 rfl ?_
                                refine g_iload_n h dX12_ticks_176 1 rfl ?_
                                refine g_cvpi (rest := []) h (r_isOn hW i2 μb (by assumption) (by omega)) lX12_isOn mX12_114 (Nat.lt_of_lt_of_le (by decide) (Nat.le_refl _)) (by decide) sc_0 rfl rfl rfl rfl dX12_ticks_177 ?_
                                refine g_ifB_eq h dX12_ticks_180 (fun c180 => ?_) (fun c180 => ?_)
                                ·
                                  refine g_iincN (b := 1) (L' := [(0, .ref (w.1 0)), (1, .int (nI i2)), (2, .int (nI (j2 + 1)))]) h dX12_ticks_211 2 rfl rfl (by decide) (by decide) rfl ?_
                                  refine g_goto h dX12_ticks_214 ?_
                                  exact ih166 (j2 + 1) μb (τ5) (by first | (rw [Nat.add_zero]; exact rl_r hI1 (by omega) (by omega) hb (by rw [show (8 * i2 + j2) / 8 = i2 from by omega]; assumption) (by omega)) | exact rl_n (m := 8 * i2 + j2) hI1 (by omega) (by omega) hb (Or.inl (by rw [show (8 * i2 + j2) / 8 = i2 from by omega]; exact c180)) | exact rl_n (m := 8 * i2 + j2) hI1 (by omega) (by omega) hb (Or.inr (by omega)) | fail | fail) (by omega) (by first | exact hvτ5 | assumption | fail | fail) (by first | exact hcRLs_τ5 | assumption | fail | fail) (by first | exact hcLR_τ5 | assumption | fail | fail) (by first | exact hcFR_τ5 | assumption | fail | fail) (by omega)
                                ·
                                  refine g_aload_n h dX12_ticks_183 0 rfl ?_
                                  refine g_sipush h dX12_ticks_184 (by decide) ?_
                                  refine g_iload_n h dX12_ticks_187 1 rfl ?_
                                  refine g_iload_n h dX12_ticks_188 2 rfl ?_
                                  refine g_cspi (rest := [.ref (w.1 0)]) h (r_two hW 400 i2 j2 ) lX12_two mX12_69 (Nat.lt_of_lt_of_le (by decide) (Nat.le_refl _)) (by decide) rfl rfl rfl dX12_ticks_189 ?_
                                  refine g_cvpi (rest := []) h (r_of hW (400 + (8 * i2 + j2)) μb (by assumption) (by omega)) lX12_of mX12_61 (Nat.lt_of_lt_of_le (by decide) (Nat.le_refl _)) (by decide) sc_0 rfl rfl rfl rfl dX12_ticks_192 ?_
                                  refine g_top (y := nI (nA μb (400 + (8 * i2 + j2)))) (mi_400 (by assumption) (by omega)) ?_
                                  have b9_192 : nA μb (400 + (8 * i2 + j2)) < 100 := mb_400 (by assumption) (by omega)
                                  refine g_ifN_le h dX12_ticks_195 (by omega) (fun c195 => ?_) (fun c195 => ?_)
                                  ·
                                    refine g_iincN (b := 1) (L' := [(0, .ref (w.1 0)), (1, .int (nI i2)), (2, .int (nI (j2 + 1)))]) h dX12_ticks_211 2 rfl rfl (by decide) (by decide) rfl ?_
                                    refine g_goto h dX12_ticks_214 ?_
                                    exact ih166 (j2 + 1) μb (τ5) (by first | (rw [Nat.add_zero]; exact rl_r hI1 (by omega) (by omega) hb (by rw [show (8 * i2 + j2) / 8 = i2 from by omega]; assumption) (by omega)) | exact rl_n (m := 8 * i2 + j2) hI1 (by omega) (by omega) hb (Or.inl (by rw [show (8 * i2 + j2) / 8 = i2 from by omega]; exact c180)) | exact rl_n (m := 8 * i2 + j2) hI1 (by omega) (by omega) hb (Or.inr (by omega)) | fail | fail) (by omega) (by first | exact hvτ5 | assumption | fail | fail) (by first | exact hcRLs_τ5 | assumption | fail | fail) (by first | exact hcLR_τ5 | assumption | fail | fail) (by first | exact hcFR_τ5 | assumption | fail | fail) (by omega)
                                  ·
                                    refine g_aload_n h dX12_ticks_198 0 rfl ?_
                                    refine g_sipush h dX12_ticks_199 (by decide) ?_
                                    refine g_iload_n h dX12_ticks_202 1 rfl ?_
                                    refine g_iload_n h dX12_ticks_203 2 rfl ?_
                                    refine g_cspi (rest := [.ref (w.1 0)]) h (r_two hW 400 i2 j2 ) lX12_two mX12_69 (Nat.lt_of_lt_of_le (by decide) (Nat.le_refl _)) (by decide) rfl rfl rfl dX12_ticks_204 ?_
                                    refine g_iconstv h dX12_ticks_207 (v := (-1)) (by decide) ?_
                                    refine g_cvv (rest := []) h (r_addsP hW (400 + (8 * i2 + j2)) (-1) μb (by first | exact hvτ5 | assumption | fail) (by omega)) lX12_adds mX12_141 (Nat.lt_of_lt_of_le (by decide) (Nat.le_refl _)) (by decide) sc_0 rfl rfl rfl rfl dX12_ticks_208 (fun σ_8 eσ_8 => ?_)
                                    have eσ_8_a : σ_8 = upd (τ5) (0 + (400 + (8 * i2 + j2))) (μb (400 + (8 * i2 + j2)) + (-1)) := eσ_8
                                    have hcRLs_σ_8 : RLs σ_8 d1 ls lo1 := by rw [eσ_8_a]; exact RLs.fr hcRLs_τ5 (upd_ne (by omega)) (upd_ne (by omega)) (upd_ne (by omega))
                                    have hcLR_σ_8 : LR 0 σ_8 nt g := by rw [eσ_8_a]; exact LR.fr hcLR_τ5 (fun a ha => upd_ne (by first | omega | (simp only [vb] at *; omega)))
                                    have hcFR_σ_8 : ∀ a, (528 ≤ a ∧ (a < 4900 ∨ a = 4901 ∨ 6000 ≤ a)) → σ_8 a = σ a := by intro a ha; exact Eq.trans (b := (τ5) a) (by rw [eσ_8_a, upd_ne (by first | omega | (simp only [vb] at *; omega))]) (hcFR_τ5 a ha)
                                    obtain ⟨μ_9, eμ_9⟩ : ∃ μ_9 : Nat → Int32, μ_9 = upd μb (400 + (8 * i2 + j2)) (μb (400 + (8 * i2 + j2)) + (-1)) := ⟨_, rfl⟩
                                    have hvσ_8 : vw 0 σ_8 = μ_9 := by rw [eσ_8_a, eμ_9, vw_in (by omega)]; congr 1
                                    refine g_iincN (b := 1) (L' := [(0, .ref (w.1 0)), (1, .int (nI i2)), (2, .int (nI (j2 + 1)))]) h dX12_ticks_211 2 rfl rfl (by decide) (by decide) rfl ?_
                                    refine g_goto h dX12_ticks_214 ?_
                                    exact ih166 (j2 + 1) μ_9 σ_8 (by first | (rw [eμ_9]; exact rl_r hI1 (by omega) (by omega) hb (by rw [show (8 * i2 + j2) / 8 = i2 from by omega]; assumption) (by omega)) | exact rl_n (m := 8 * i2 + j2) hI1 (by omega) (by omega) hb (Or.inl (by rw [show (8 * i2 + j2) / 8 = i2 from by omega]; exact c180)) | exact rl_n (m := 8 * i2 + j2) hI1 (by omega) (by omega) hb (Or.inr (by omega)) | fail | fail) (by omega) (by first | exact hvσ_8 | assumption | fail | fail) (by first | exact hcRLs_σ_8 | assumption | fail | fail) (by first | exact hcLR_σ_8 | assumption | fail | fail) (by first | exact hcFR_σ_8 | assumption | fail | fail) (by omega)
                          exact lp166 (_) 0 μc (τ4) (by rw [hc]; rfl) (by omega) (by first | exact hvτ4 | assumption | fail | fail) (by first | exact hcRLs_τ4 | assumption | fail | fail) (by first | exact hcLR_τ4 | assumption | fail | fail) (by first | exact hcFR_τ4 | assumption | fail | fail) (Nat.lt_succ_self _)
                    exact lp155 (_) 0 μr (τ3) (by rw [hr, show k2 = nN μ from by omega]) (by omega) (by first | exact hvτ3 | assumption | fail | fail) (by first | exact hcRLs_τ3 | assumption | fail | fail) (by first | exact hcLR_τ3 | assumption | fail | fail) (by first | exact hcFR_τ3 | assumption | fail | fail) (Nat.lt_succ_self _)
                  ·
                    refine g_aload_n h dX12_ticks_126 0 rfl ?_
                    refine g_iload_n h dX12_ticks_127 1 rfl ?_
                    refine g_cvpi (rest := []) h (r_isOn hW k2 μr (by assumption) (by omega)) lX12_isOn mX12_114 (Nat.lt_of_lt_of_le (by decide) (Nat.le_refl _)) (by decide) sc_0 rfl rfl rfl rfl dX12_ticks_128 ?_
                    refine g_ifB_eq h dX12_ticks_131 (fun c131 => ?_) (fun c131 => ?_)
                    ·
                      refine g_iincN (b := 1) (L' := [(0, .ref (w.1 0)), (1, .int (nI (k2 + 1)))]) h dX12_ticks_147 1 rfl rfl (by decide) (by decide) rfl ?_
                      refine g_goto h dX12_ticks_150 ?_
                      exact ih117 (k2 + 1) μr (τ3) (by first | exact rl_c0 (by omega) hr (by assumption) | (rw [Nat.add_zero]; exact rl_c1 hI1 (by omega) hr (by assumption)) | fail | fail) (by omega) (by first | exact hvτ3 | assumption | fail | fail) (by first | exact hcRLs_τ3 | assumption | fail | fail) (by first | exact hcLR_τ3 | assumption | fail | fail) (by first | exact hcFR_τ3 | assumption | fail | fail) (by omega)
                    ·
                      refine g_aload_n h dX12_ticks_134 0 rfl ?_
                      refine g_bipush h dX12_ticks_135 (by decide) ?_
                      refine g_iload_n h dX12_ticks_137 1 rfl ?_
                      refine g_iaddN h dX12_ticks_138  ?_
                      refine g_aload_n h dX12_ticks_139 0 rfl ?_
                      refine g_iload_n h dX12_ticks_140 1 rfl ?_
                      refine g_cvi (rest := [.int (nI (48 + k2)), .ref (w.1 0)]) h (r_chosen hW k2 μr (by first | exact hvτ3 | assumption | fail) (by assumption) (by omega)) lX12_chosen mX12_166 (Nat.lt_of_lt_of_le (by decide) (Nat.le_refl _)) (by decide) sc_0 rfl rfl rfl rfl dX12_ticks_141 (fun σ_10 eσ_10 => ?_)
                      obtain ⟨eσ_10_a, eσ_10_b⟩ := eσ_10
                      have eσ_10_a : PK μr k2 σ_10 5012 5100 := eσ_10_a
                      have eσ_10_b : ∀ a, (a ≠ 5012 ∧ (a < 5100 ∨ 5108 ≤ a)) → σ_10 a = (τ3) a := eσ_10_b
                      have hcRLs_σ_10 : RLs σ_10 d1 ls lo1 := by exact RLs.fr hcRLs_τ3 (eσ_10_b _ (by omega)) (eσ_10_b _ (by omega)) (eσ_10_b _ (by omega))
                      have hcLR_σ_10 : LR 0 σ_10 nt g := by exact LR.fr hcLR_τ3 (fun a ha => eσ_10_b a (by first | omega | (simp only [vb] at *; omega)))
                      have hcFR_σ_10 : ∀ a, (528 ≤ a ∧ (a < 4900 ∨ a = 4901 ∨ 6000 ≤ a)) → σ_10 a = σ a := by intro a ha; exact Eq.trans (b := (τ3) a) (eσ_10_b a (by first | omega | (simp only [vb] at *; omega))) (hcFR_τ3 a ha)
                      have hvσ_10 : vw 0 σ_10 = μr := by rw [vw_fr (σ := (τ3)) (fun j _ _ => eσ_10_b _ (by first | omega | (simp only [vb] at *; omega)))]; first | exact hvτ3 | assumption
                      refine g_cvv (rest := []) h (r_puts hW (48 + k2) (chos μr k2) (by omega)) lX12_puts mX12_57 (Nat.lt_of_lt_of_le (by decide) (Nat.le_refl _)) (by decide) sc_0 rfl rfl rfl rfl dX12_ticks_144 (fun σ_11 eσ_11 => ?_)
                      have eσ_11_a : σ_11 = upd σ_10 (0 + (48 + k2)) (chos μr k2) := eσ_11
                      have hcRLs_σ_11 : RLs σ_11 d1 ls lo1 := by rw [eσ_11_a]; exact RLs.fr hcRLs_σ_10 (upd_ne (by omega)) (upd_ne (by omega)) (upd_ne (by omega))
                      have hcLR_σ_11 : LR 0 σ_11 nt g := by rw [eσ_11_a]; exact LR.fr hcLR_σ_10 (fun a ha => upd_ne (by first | omega | (simp only [vb] at *; omega)))
                      have hcFR_σ_11 : ∀ a, (528 ≤ a ∧ (a < 4900 ∨ a = 4901 ∨ 6000 ≤ a)) → σ_11 a = σ a := by intro a ha; exact Eq.trans (b := σ_10 a) (by rw [eσ_11_a, upd_ne (by first | omega | (simp only [vb] at *; omega))]) (hcFR_σ_10 a ha)
                      obtain ⟨μ_12, eμ_12⟩ : ∃ μ_12 : Nat → Int32, μ_12 = upd μr (48 + k2) (chos μr k2) := ⟨_, rfl⟩
                      have hvσ_11 : vw 0 σ_11 = μ_12 := by rw [eσ_11_a, eμ_12, vw_in (by omega)]; congr 1
                      refine g_iincN (b := 1) (L' := [(0, .ref (w.1 0)), (1, .int (nI (k2 + 1)))]) h dX12_ticks_147 1 rfl rfl (by decide) (by decide) rfl ?_
                      refine g_goto h dX12_ticks_150 ?_
                      exact ih117 (k2 + 1) μ_12 σ_11 (by first | exact rl_c0 (by omega) hr (by assumption) | (rw [eμ_12]; exact rl_c1 hI1 (by omega) hr (by assumption)) | fail | fail) (by omega) (by first | exact hvσ_11 | assumption | fail | fail) (by first | exact hcRLs_σ_11 | assumption | fail | fail) (by first | exact hcLR_σ_11 | assumption | fail | fail) (by first | exact hcFR_σ_11 | assumption | fail | fail) (by omega)
              exact lp117 (_) 0 μ1 (τ1) (by exact (rl_0 _).symm) (by omega) (by first | exact hvτ1 | assumption | fail | fail) (by first | exact hcRLs_τ1 | assumption | fail | fail) (by first | exact hcLR_τ1 | assumption | fail | fail) (by first | exact hcFR_τ1 | assumption | fail | fail) (Nat.lt_succ_self _)
            ·
              refine g_iconst h dX12_ticks_73 (by decide) ?_
              refine g_istore_n (L' := [(0, .ref (w.1 0)), (1, .int (nI i)), (2, .int (nI 0))]) h dX12_ticks_74 rfl (by decide) rfl ?_
              have lp75 : ∀ (k9 : Nat) (j : Nat) (μ2 : Nat → Int32) (d2 : Nat) (lo2 : Int32) (τ2 : Mem), (hlJ ls μh i (μ1, d1, lo1, g) j = (μ2, d2, lo2, g)) → (j ≤ nN μ) → (vw 0 τ2 = μ2) → (RLs τ2 d2 ls lo2) → (LR 0 τ2 nt g) → (∀ a, (528 ≤ a ∧ (a < 4900 ∨ a = 4901 ∨ 6000 ≤ a)) → τ2 a = σ a) → (HT 5110 μh τ2) → nN μ - j < k9 → G X w 3 75 [(0, .ref (w.1 0)), (1, .int (nI i)), (2, .int (nI j))] [] (τ2) := by
                intro k9
                induction k9 with
                | zero => intro j μ2 d2 lo2 τ2 hT2 hj hvτ2 hcRLs_τ2 hcLR_τ2 hcFR_τ2 hcHT_τ2 hm9; exact absurd hm9 (Nat.not_lt_zero _)
                | succ k9 ih75 =>
                  intro j μ2 d2 lo2 τ2 hT2 hj hvτ2 hcRLs_τ2 hcLR_τ2 hcFR_τ2 hcHT_τ2 hm75
                  have hA2 := hlJ_all (ls := ls) (i := i) (μh := μh) (s := (μ1, d1, lo1, g)) hI1 hIh (hNh.trans hN1.symm) (show i < nN μ1 by omega) j (show j ≤ nN μ1 by omega)
                  rw [hT2] at hA2
                  have hI2 : MI μ2 := hA2.1
                  have hN2 : nN μ2 = nN μ := hA2.2.1.trans hN1
                  refine g_iload_n h dX12_ticks_75 2 rfl ?_
                  refine g_aload_n h dX12_ticks_76 0 rfl ?_
                  refine g_iconst h dX12_ticks_77 (by decide) ?_
                  refine g_cvpi (rest := [.int (nI j)]) h (r_of hW 0 μ2 (by assumption) (by omega)) lX12_of mX12_61 (Nat.lt_of_lt_of_le (by decide) (Nat.le_refl _)) (by decide) sc_0 rfl rfl rfl rfl dX12_ticks_78 ?_
                  refine g_top (y := nI (nN μ2)) (mi_0 (by assumption)) ?_
                  refine g_icmpN_ge h dX12_ticks_81 (by omega) (by omega) (fun c81 => ?_) (fun c81 => ?_)
                  ·
                    refine g_iincN (b := 1) (L' := [(0, .ref (w.1 0)), (1, .int (nI (i + 1))), (2, .int (nI j))]) h dX12_ticks_109 1 rfl rfl (by decide) (by decide) rfl ?_
                    refine g_goto h dX12_ticks_112 ?_
                    exact g_sub [0, 1] rfl (ih64 (i + 1) μ2 d2 lo2 (τ2) (by rw [hlI, hT, ← hT2, show j = nN μ from by omega]) (by omega) (by first | exact hvτ2 | assumption | fail | fail) (by first | exact hcRLs_τ2 | assumption | fail | fail) (by first | exact hcLR_τ2 | assumption | fail | fail) (by first | exact hcFR_τ2 | assumption | fail | fail) (by first | exact hcHT_τ2 | assumption | fail | fail) (by omega))
                  ·
                    refine g_iload_n h dX12_ticks_84 1 rfl ?_
                    refine g_iload_n h dX12_ticks_85 2 rfl ?_
                    refine g_icmpN_eq h dX12_ticks_86 (by omega) (by omega) (fun c86 => ?_) (fun c86 => ?_)
                    ·
                      refine g_iincN (b := 1) (L' := [(0, .ref (w.1 0)), (1, .int (nI i)), (2, .int (nI (j + 1)))]) h dX12_ticks_103 2 rfl rfl (by decide) (by decide) rfl ?_
                      refine g_goto h dX12_ticks_106 ?_
                      exact ih75 (j + 1) μ2 d2 lo2 (τ2) (by rw [hlJ, hT2]; simp [hl1, c11, c70, c81, c86, Nat.add_zero]) (by omega) (by first | exact hvτ2 | assumption | fail | fail) (by first | exact hcRLs_τ2 | assumption | fail | fail) (by first | exact hcLR_τ2 | assumption | fail | fail) (by first | exact hcFR_τ2 | assumption | fail | fail) (by first | exact hcHT_τ2 | assumption | fail | fail) (by omega)
                    ·
                      refine g_aload_n h dX12_ticks_89 0 rfl ?_
                      refine g_iload_n h dX12_ticks_90 1 rfl ?_
                      refine g_cvpi (rest := []) h (r_isOn hW i μ2 (by assumption) (by omega)) lX12_isOn mX12_114 (Nat.lt_of_lt_of_le (by decide) (Nat.le_refl _)) (by decide) sc_0 rfl rfl rfl rfl dX12_ticks_91 ?_
                      refine g_ifB_eq h dX12_ticks_94 (fun c94 => ?_) (fun c94 => ?_)
                      ·
                        refine g_iincN (b := 1) (L' := [(0, .ref (w.1 0)), (1, .int (nI i)), (2, .int (nI (j + 1)))]) h dX12_ticks_103 2 rfl rfl (by decide) (by decide) rfl ?_
                        refine g_goto h dX12_ticks_106 ?_
                        exact ih75 (j + 1) μ2 d2 lo2 (τ2) (by rw [hlJ, hT2]; simp [hl1, c11, c70, c81, c86, c94, Nat.add_zero]) (by omega) (by first | exact hvτ2 | assumption | fail | fail) (by first | exact hcRLs_τ2 | assumption | fail | fail) (by first | exact hcLR_τ2 | assumption | fail | fail) (by first | exact hcFR_τ2 | assumption | fail | fail) (by first | exact hcHT_τ2 | assumption | fail | fail) (by omega)
                      ·
                        refine g_aload_n h dX12_ticks_97 0 rfl ?_
                        refine g_iload_n h dX12_ticks_98 1 rfl ?_
                        refine g_iload_n h dX12_ticks_99 2 rfl ?_
                        refine g_cvv (rest := []) h (r_hears hW i j μ2 μh d2 ls lo2 (by first | exact hvτ2 | assumption | fail) (by assumption) (by omega) (by omega) (by first | assumption | simpa using ‹_› | fail) (by first | exact hcRLs_τ2 | assumption | fail) (by first | exact hcHT_τ2 | assumption | fail)) lX12_hears mX12_163 (Nat.lt_of_lt_of_le (by decide) (Nat.le_refl _)) (by decide) sc_0 rfl rfl rfl rfl dX12_ticks_100 (fun σ_13 eσ_13 => ?_)
                        obtain ⟨eσ_13_a, eσ_13_b, eσ_13_c, eσ_13_d⟩ := eσ_13
                        have eσ_13_a : vw 0 σ_13 = hrS μh μ2 i j (hrH μ2 i j d2 ls) := eσ_13_a
                        have eσ_13_b : RLs σ_13 (hrD μ2 i j d2) ls (hrL μ2 i j d2 ls lo2) := eσ_13_b
                        have eσ_13_c : HT 5110 μh σ_13 := eσ_13_c
                        have eσ_13_d : ∀ a, (464 ≤ a ∧ (a < 4900 ∨ a = 4901 ∨ 4903 ≤ a) ∨ a = 10) → σ_13 a = (τ2) a := eσ_13_d
                        have hcRLs_σ_13 : RLs σ_13 (hrD μ2 i j d2) ls (hrL μ2 i j d2 ls lo2) := eσ_13_b
                        have hcLR_σ_13 : LR 0 σ_13 nt g := by exact LR.fr hcLR_τ2 (fun a ha => eσ_13_d a (by first | omega | (simp only [vb] at *; omega)))
                        have hcFR_σ_13 : ∀ a, (528 ≤ a ∧ (a < 4900 ∨ a = 4901 ∨ 6000 ≤ a)) → σ_13 a = σ a := by intro a ha; exact Eq.trans (b := (τ2) a) (eσ_13_d a (by first | omega | (simp only [vb] at *; omega))) (hcFR_τ2 a ha)
                        have hcHT_σ_13 : HT 5110 μh σ_13 := eσ_13_c
                        obtain ⟨μ_14, eμ_14⟩ : ∃ μ_14 : Nat → Int32, μ_14 = hrS μh μ2 i j (hrH μ2 i j d2 ls) := ⟨_, rfl⟩
                        have hvσ_13 : vw 0 σ_13 = μ_14 := by rw [eμ_14]; exact eσ_13_a
                        refine g_iincN (b := 1) (L' := [(0, .ref (w.1 0)), (1, .int (nI i)), (2, .int (nI (j + 1)))]) h dX12_ticks_103 2 rfl rfl (by decide) (by decide) rfl ?_
                        refine g_goto h dX12_ticks_106 ?_
                        exact ih75 (j + 1) μ_14 (hrD μ2 i j d2) (hrL μ2 i j d2 ls lo2) σ_13 (by rw [hlJ, hT2]; simp [hl1, c11, c70, c81, c86, c94, eμ_14]) (by omega) (by first | exact hvσ_13 | assumption | fail | fail) (by first | exact hcRLs_σ_13 | assumption | fail | fail) (by first | exact hcLR_σ_13 | assumption | fail | fail) (by first | exact hcFR_σ_13 | assumption | fail | fail) (by first | exact hcHT_σ_13 | assumption | fail | fail) (by omega)
              exact lp75 (_) 0 μ1 d1 lo1 (τ1) (by rfl) (by omega) (by first | exact hvτ1 | assumption | fail | fail) (by first | exact hcRLs_τ1 | assumption | fail | fail) (by first | exact hcLR_τ1 | assumption | fail | fail) (by first | exact hcFR_τ1 | assumption | fail | fail) (by first | exact hcHT_τ1 | assumption | fail | fail) (Nat.lt_succ_self _)
        exact lp64 (_) 0 μh d lo (τ) (by rfl) (by omega) (by first | exact hvτ | assumption | fail | fail) (by first | exact hcRLs_τ | assumption | fail | fail) (by first | exact hcLR_τ | assumption | fail | fail) (by first | exact hcFR_τ | assumption | fail | fail) (by first | exact hcHT_τ | assumption | fail | fail) (Nat.lt_succ_self _)
      ·
        refine g_aload_n h dX12_ticks_14 0 rfl ?_
        refine g_getr h dX12_ticks_15 gX12_16 sc_0 rfl ?_
        refine g_iload_n h dX12_ticks_18 1 rfl ?_
        refine g_aload_n h dX12_ticks_19 0 rfl ?_
        refine g_bipush h dX12_ticks_20 (by decide) ?_
        refine g_iload_n h dX12_ticks_22 1 rfl ?_
        refine g_iaddN h dX12_ticks_23  ?_
        refine g_cvpi (rest := [.int (nI k), .ref (w.1 3)]) h (r_of hW (56 + k) μh (by assumption) (by omega)) lX12_of mX12_61 (Nat.lt_of_lt_of_le (by decide) (Nat.le_refl _)) (by decide) sc_0 rfl rfl rfl rfl dX12_ticks_24 ?_
        refine g_top (y := (μh (56 + k))) rfl ?_
        refine g_iast h dX12_ticks_27 sc_3 (by omega) ?_
        refine g_nm (fun σa eσa => ?_)
        have eσa : σa = upd (τ) (5110 + k) (μh (56 + k)) := eσa
        have hcRLs_σa : RLs σa d ls lo := by rw [eσa]; exact RLs.fr hcRLs_τ (upd_ne (by omega)) (upd_ne (by omega)) (upd_ne (by omega))
        have hcLR_σa : LR 0 σa nt g := by rw [eσa]; exact LR.fr hcLR_τ (fun a ha => upd_ne (by first | omega | (simp only [vb] at *; omega)))
        have hcFR_σa : ∀ a, (528 ≤ a ∧ (a < 4900 ∨ a = 4901 ∨ 6000 ≤ a)) → σa a = σ a := by intro a ha; exact Eq.trans (b := (τ) a) (by rw [eσa, upd_ne (by first | omega | (simp only [vb] at *; omega))]) (hcFR_τ a ha)
        have hvσa : vw 0 σa = μh := by rw [eσa, vw_out (by omega)]; first | exact hvτ | assumption
        refine g_aload_n h dX12_ticks_28 0 rfl ?_
        refine g_getr h dX12_ticks_29 gX12_19 sc_0 rfl ?_
        refine g_iload_n h dX12_ticks_32 1 rfl ?_
        refine g_aload_n h dX12_ticks_33 0 rfl ?_
        refine g_bipush h dX12_ticks_34 (by decide) ?_
        refine g_iload_n h dX12_ticks_36 1 rfl ?_
        refine g_iaddN h dX12_ticks_37  ?_
        refine g_cvpi (rest := [.int (nI k), .ref (w.1 4)]) h (r_of hW (64 + k) μh (by assumption) (by omega)) lX12_of mX12_61 (Nat.lt_of_lt_of_le (by decide) (Nat.le_refl _)) (by decide) sc_0 rfl rfl rfl rfl dX12_ticks_38 ?_
        refine g_top (y := (μh (64 + k))) rfl ?_
        refine g_iast h dX12_ticks_41 sc_4 (by omega) ?_
        refine g_nm (fun σb eσb => ?_)
        have eσb : σb = upd σa (5120 + k) (μh (64 + k)) := eσb
        have hcRLs_σb : RLs σb d ls lo := by rw [eσb]; exact RLs.fr hcRLs_σa (upd_ne (by omega)) (upd_ne (by omega)) (upd_ne (by omega))
        have hcLR_σb : LR 0 σb nt g := by rw [eσb]; exact LR.fr hcLR_σa (fun a ha => upd_ne (by first | omega | (simp only [vb] at *; omega)))
        have hcFR_σb : ∀ a, (528 ≤ a ∧ (a < 4900 ∨ a = 4901 ∨ 6000 ≤ a)) → σb a = σ a := by intro a ha; exact Eq.trans (b := σa a) (by rw [eσb, upd_ne (by first | omega | (simp only [vb] at *; omega))]) (hcFR_σa a ha)
        have hvσb : vw 0 σb = μh := by rw [eσb, vw_out (by omega)]; first | exact hvσa | assumption
        refine g_aload_n h dX12_ticks_42 0 rfl ?_
        refine g_getr h dX12_ticks_43 gX12_22 sc_0 rfl ?_
        refine g_iload_n h dX12_ticks_46 1 rfl ?_
        refine g_aload_n h dX12_ticks_47 0 rfl ?_
        refine g_bipush h dX12_ticks_48 (by decide) ?_
        refine g_iload_n h dX12_ticks_50 1 rfl ?_
        refine g_iaddN h dX12_ticks_51  ?_
        refine g_cvpi (rest := [.int (nI k), .ref (w.1 5)]) h (r_of hW (48 + k) μh (by assumption) (by omega)) lX12_of mX12_61 (Nat.lt_of_lt_of_le (by decide) (Nat.le_refl _)) (by decide) sc_0 rfl rfl rfl rfl dX12_ticks_52 ?_
        refine g_top (y := (μh (48 + k))) rfl ?_
        refine g_iast h dX12_ticks_55 sc_5 (by omega) ?_
        refine g_nm (fun σc eσc => ?_)
        have eσc : σc = upd σb (5130 + k) (μh (48 + k)) := eσc
        have hcRLs_σc : RLs σc d ls lo := by rw [eσc]; exact RLs.fr hcRLs_σb (upd_ne (by omega)) (upd_ne (by omega)) (upd_ne (by omega))
        have hcLR_σc : LR 0 σc nt g := by rw [eσc]; exact LR.fr hcLR_σb (fun a ha => upd_ne (by first | omega | (simp only [vb] at *; omega)))
        have hcFR_σc : ∀ a, (528 ≤ a ∧ (a < 4900 ∨ a = 4901 ∨ 6000 ≤ a)) → σc a = σ a := by intro a ha; exact Eq.trans (b := σb a) (by rw [eσc, upd_ne (by first | omega | (simp only [vb] at *; omega))]) (hcFR_σb a ha)
        have hvσc : vw 0 σc = μh := by rw [eσc, vw_out (by omega)]; first | exact hvσb | assumption
        refine g_iincN (b := 1) (L' := [(0, .ref (w.1 0)), (1, .int (nI (k + 1)))]) h dX12_ticks_56 1 rfl rfl (by decide) (by decide) rfl ?_
        refine g_goto h dX12_ticks_59 ?_
        exact ih8 (k + 1) σc (by omega) (by exact ht_more rfl (by omega) hh eσa eσb eσc) (by first | exact hvσc | assumption | fail | fail) (by first | exact hcRLs_σc | assumption | fail | fail) (by first | exact hcLR_σc | assumption | fail | fail) (by first | exact hcFR_σc | assumption | fail | fail) (by omega)
  exact lp8 (_) 0 σ_1 (by omega) (by intro j hj; omega) (by first | exact hvσ_1 | assumption | fail | fail) (by first | exact hcRLs_σ_1 | assumption | fail | fail) (by first | exact hcLR_σ_1 | assumption | fail | fail) (by first | exact hcFR_σ_1 | assumption | fail | fail) (Nat.lt_succ_self _)
