/-! till all is told -/
theorem tl1_t {μ : Nat → Int32} {i : Nat} (h8 : nN μ ≤ 8) (h1 : tb (μ 1) i = true) (h2 : ¬ wrS μ i 0 ||| wrS μ i 1 ||| wrS μ i 2 = 0) : tl1 μ i = true := by
  unfold tl1
  rw [h1]
  cases q : anyB (fun j => !decide (rs (rts μ i 6) j = far μ i j)) (nN μ) with
  | true => rfl
  | false => exact absurd ((wr_told h8).mpr q) h2
theorem tl1_f {μ : Nat → Int32} {i : Nat} (h8 : nN μ ≤ 8) (h2 : wrS μ i 0 ||| wrS μ i 1 ||| wrS μ i 2 = 0) : tl1 μ i = false := by
  unfold tl1
  rw [(wr_told h8).mp h2]
  cases tb (μ 1) i <;> rfl
def tkN (s : TT) : Nat → TT
  | 0 => s
  | n + 1 => tkF 0 (tkN s n)
def stO (μ : Nat → Int32) (g : Nat → Nat → Int32) : Option Nat := fs (fun n => tld (tkN (μ, 0, nI 0, g) n).1) 121
def stK (μ : Nat → Int32) (g : Nat → Nat → Int32) : Nat := match stO μ g with
  | none => 120
  | some n => n
def stC (μ : Nat → Int32) (g : Nat → Nat → Int32) : Nat := match stO μ g with
  | none => 121
  | some n => n
theorem tkN_all {s : TT} (h : MI s.1) : ∀ n, MI (tkN s n).1 ∧ nN (tkN s n).1 = nN s.1
  | 0 => ⟨h, rfl⟩
  | n + 1 => by
    obtain ⟨h1, h2⟩ := tkN_all h n
    obtain ⟨q1, q2⟩ := tkF_all (ls := 0) h1
    exact ⟨q1, q2.trans h2⟩
theorem tld_t {μ : Nat → Int32} {n : Nat} (hn : nN μ ≤ n) (h : ∀ x, x < n → tl1 μ x = false) : tld μ = true := by
  unfold tld
  rw [anyB_f (fun x hx => h x (by omega))]
  rfl
theorem tld_f {μ : Nat → Int32} {n : Nat} (hn : n < nN μ) (h : tl1 μ n = true) : tld μ = false := by
  unfold tld
  rw [anyB_iff.mpr ⟨n, hn, h⟩]
  rfl

set_option maxRecDepth 100000 in
set_option maxHeartbeats 4000000 in
theorem r_isTold {l : Launch} {w : Wd} (hW : Wi w) {σ : Mem} (μ : Nat → Int32) (hv : vw 0 σ = μ) (hI : MI μ) : MC l w qX12_isTold 6 [.ref (w.1 0)] σ (some (.int (b2i (tld μ)))) (fun σ' => (∀ a, (a < 5150 ∨ 5168 ≤ a) → σ' a = σ a)) := by
  refine MC.of hW (by decide +kernel) (Nat.le_of_ble_eq_true rfl) (fun X h hQ hnm => ?_)
  have h : Fx X w cX12_isTold 2 RX12 6 := h
  have hQ : Qx X w (some .boolean) (some (.int (b2i (tld μ)))) (fun σ' => (∀ a, (a < 5150 ∨ 5168 ≤ a) → σ' a = σ a)) := hQ
  have hN8 := mi_8 hI
  have hcFR_σ : ∀ a, (a < 5150 ∨ 5168 ≤ a) → σ a = σ a := fun _ _ => rfl
  show G X w 2 0 [(0, .ref (w.1 0))] [] σ
  refine g_iconst h dX12_isTold_0 (by decide) ?_
  refine g_istore_n (L' := [(0, .ref (w.1 0)), (1, .int (nI 0))]) h dX12_isTold_1 rfl (by decide) rfl ?_
  have lp2 : ∀ (k9 : Nat) (i : Nat) (τ : Mem), (i ≤ nN μ) → (∀ x, x < i → tl1 μ x = false) → (vw 0 τ = μ) → (∀ a, (a < 5150 ∨ 5168 ≤ a) → τ a = σ a) → nN μ - i < k9 → G X w 2 2 [(0, .ref (w.1 0)), (1, .int (nI i))] [] (τ) := by
    intro k9
    induction k9 with
    | zero => intro i τ hi hno hvτ hcFR_τ hm9; exact absurd hm9 (Nat.not_lt_zero _)
    | succ k9 ih2 =>
      intro i τ hi hno hvτ hcFR_τ hm2
      refine g_iload_n h dX12_isTold_2 1 rfl ?_
      refine g_aload_n h dX12_isTold_3 0 rfl ?_
      refine g_iconst h dX12_isTold_4 (by decide) ?_
      refine g_cvpi (rest := [.int (nI i)]) h (r_of hW 0 μ (by assumption) (by omega)) lX12_of mX12_61 (Nat.lt_of_lt_of_le (by decide) (Nat.le_refl _)) (by decide) sc_0 rfl rfl rfl rfl dX12_isTold_5 ?_
      refine g_top (y := nI (nN μ)) (mi_0 (by assumption)) ?_
      refine g_icmpN_ge h dX12_isTold_8 (by omega) (by omega) (fun c8 => ?_) (fun c8 => ?_)
      ·
        refine g_iconst h dX12_isTold_50 (by decide) ?_
        exact g_zret h hQ dX12_isTold_51 (show narrow .boolean (.int (b2i true)) = .int (b2i true) from narrow_b2i _) (congrArg (fun z => some (Value.int (b2i z))) (show (tld μ) = true by first | exact tld_t (by omega) hno | exact tld_f (by omega) (tl1_t hN8 c16 c39) | fail)) (by exact hcFR_τ)
      ·
        refine g_aload_n h dX12_isTold_11 0 rfl ?_
        refine g_iload_n h dX12_isTold_12 1 rfl ?_
        refine g_cvpi (rest := []) h (r_isOn hW i μ (by assumption) (by omega)) lX12_isOn mX12_114 (Nat.lt_of_lt_of_le (by decide) (Nat.le_refl _)) (by decide) sc_0 rfl rfl rfl rfl dX12_isTold_13 ?_
        refine g_ifB_eq h dX12_isTold_16 (fun c16 => ?_) (fun c16 => ?_)
        ·
          refine g_iincN (b := 1) (L' := [(0, .ref (w.1 0)), (1, .int (nI (i + 1)))]) h dX12_isTold_44 1 rfl rfl (by decide) (by decide) rfl ?_
          refine g_goto h dX12_isTold_47 ?_
          exact ih2 (i + 1) (τ) (by omega) (by intro x hx; exact if e9 : x = i then (by rw [e9]; first | exact tl1_f hN8 c39 | (simp [tl1, c16]; done)) else hno x (by omega)) (by first | exact hvτ | assumption | fail | fail) (by first | exact hcFR_τ | assumption | fail | fail) (by omega)
        ·
          refine g_aload_n h dX12_isTold_19 0 rfl ?_
          refine g_iload_n h dX12_isTold_20 1 rfl ?_
          refine g_iconst h dX12_isTold_21 (by decide) ?_
          refine g_cvi (rest := []) h (r_wrongOf hW i 0 μ (by first | exact hvτ | assumption | fail) (by assumption) (by omega) (by omega)) lX12_wrongOf mX12_330 (Nat.lt_of_lt_of_le (by decide) (Nat.le_refl _)) (by decide) sc_0 rfl rfl rfl rfl dX12_isTold_22 (fun σ_1 eσ_1 => ?_)
          have eσ_1_a : ∀ a, (a < 5150 ∨ 5168 ≤ a) → σ_1 a = (τ) a := eσ_1
          have hcFR_σ_1 : ∀ a, (a < 5150 ∨ 5168 ≤ a) → σ_1 a = σ a := by intro a ha; exact Eq.trans (b := (τ) a) (eσ_1_a a (by first | omega | (simp only [vb] at *; omega))) (hcFR_τ a ha)
          have hvσ_1 : vw 0 σ_1 = μ := by rw [vw_fr (σ := (τ)) (fun j _ _ => eσ_1_a _ (by first | omega | (simp only [vb] at *; omega)))]; first | exact hvτ | assumption
          refine g_aload_n h dX12_isTold_25 0 rfl ?_
          refine g_iload_n h dX12_isTold_26 1 rfl ?_
          refine g_iconst h dX12_isTold_27 (by decide) ?_
          refine g_cvi (rest := [.int (wrS μ i 0)]) h (r_wrongOf hW i 1 μ (by first | exact hvσ_1 | assumption | fail) (by assumption) (by omega) (by omega)) lX12_wrongOf mX12_330 (Nat.lt_of_lt_of_le (by decide) (Nat.le_refl _)) (by decide) sc_0 rfl rfl rfl rfl dX12_isTold_28 (fun σ_2 eσ_2 => ?_)
          have eσ_2_a : ∀ a, (a < 5150 ∨ 5168 ≤ a) → σ_2 a = σ_1 a := eσ_2
          have hcFR_σ_2 : ∀ a, (a < 5150 ∨ 5168 ≤ a) → σ_2 a = σ a := by intro a ha; exact Eq.trans (b := σ_1 a) (eσ_2_a a (by first | omega | (simp only [vb] at *; omega))) (hcFR_σ_1 a ha)
          have hvσ_2 : vw 0 σ_2 = μ := by rw [vw_fr (σ := σ_1) (fun j _ _ => eσ_2_a _ (by first | omega | (simp only [vb] at *; omega)))]; first | exact hvσ_1 | assumption
          refine g_ior h dX12_isTold_31  ?_
          refine g_aload_n h dX12_isTold_32 0 rfl ?_
          refine g_iload_n h dX12_isTold_33 1 rfl ?_
          refine g_iconst h dX12_isTold_34 (by decide) ?_
          refine g_cvi (rest := [.int ((wrS μ i 0) ||| (wrS μ i 1))]) h (r_wrongOf hW i 2 μ (by first | exact hvσ_2 | assumption | fail) (by assumption) (by omega) (by omega)) lX12_wrongOf mX12_330 (Nat.lt_of_lt_of_le (by decide) (Nat.le_refl _)) (by decide) sc_0 rfl rfl rfl rfl dX12_isTold_35 (fun σ_3 eσ_3 => ?_)
          have eσ_3_a : ∀ a, (a < 5150 ∨ 5168 ≤ a) → σ_3 a = σ_2 a := eσ_3
          have hcFR_σ_3 : ∀ a, (a < 5150 ∨ 5168 ≤ a) → σ_3 a = σ a := by intro a ha; exact Eq.trans (b := σ_2 a) (eσ_3_a a (by first | omega | (simp only [vb] at *; omega))) (hcFR_σ_2 a ha)
          have hvσ_3 : vw 0 σ_3 = μ := by rw [vw_fr (σ := σ_2) (fun j _ _ => eσ_3_a _ (by first | omega | (simp only [vb] at *; omega)))]; first | exact hvσ_2 | assumption
          refine g_ior h dX12_isTold_38  ?_
          refine g_if_eq h dX12_isTold_39 (fun c39 => ?_) (fun c39 => ?_)
          ·
            refine g_iincN (b := 1) (L' := [(0, .ref (w.1 0)), (1, .int (nI (i + 1)))]) h dX12_isTold_44 1 rfl rfl (by decide) (by decide) rfl ?_
            refine g_goto h dX12_isTold_47 ?_
            exact ih2 (i + 1) σ_3 (by omega) (by intro x hx; exact if e9 : x = i then (by rw [e9]; first | exact tl1_f hN8 c39 | (simp [tl1, c16]; done)) else hno x (by omega)) (by first | exact hvσ_3 | assumption | fail | fail) (by first | exact hcFR_σ_3 | assumption | fail | fail) (by omega)
          ·
            refine g_iconst h dX12_isTold_42 (by decide) ?_
            exact g_zret h hQ dX12_isTold_43 (show narrow .boolean (.int (b2i false)) = .int (b2i false) from narrow_b2i _) (congrArg (fun z => some (Value.int (b2i z))) (show (tld μ) = false by first | exact tld_t (by omega) hno | exact tld_f (by omega) (tl1_t hN8 c16 c39) | fail)) (by exact hcFR_σ_3)
  exact lp2 (_) 0 σ (by omega) (by intro x hx; omega) (by first | exact hv | assumption | fail | fail) (by first | exact hcFR_σ | assumption | fail | fail) (Nat.lt_succ_self _)

set_option maxRecDepth 100000 in
set_option maxHeartbeats 4000000 in
theorem r_settlesNow {l : Launch} {w : Wd} (hW : Wi w) {σ : Mem} (nt : Nat) (g : Nat → Nat → Int32) (μ : Nat → Int32) (hv : vw 0 σ = μ) (hI : MI μ) (h7 : μ 7 = nI nt) (hnt : nt + 1000 < 2 ^ 30) (hcLR_σ : LR 0 σ nt g) : MC l w qX12_settlesNow 7 [.ref (w.1 0)] σ (some (.int (oI (stO μ g)))) (fun σ' => (vw 0 σ' = (tkN (μ, 0, nI 0, g) (stK μ g)).1) ∧ (LR 0 σ' (nA (tkN (μ, 0, nI 0, g) (stK μ g)).1 7) (tkN (μ, 0, nI 0, g) (stK μ g)).2.2.2) ∧ (∀ a, (528 ≤ a ∧ (a < 4900 ∨ 6000 ≤ a)) → σ' a = σ a)) := by
  refine MC.of hW (by decide +kernel) (Nat.le_of_ble_eq_true rfl) (fun X h hQ hnm => ?_)
  have h : Fx X w cX12_settlesNow 2 RX12 7 := h
  have hQ : Qx X w (some .int) (some (.int (oI (stO μ g)))) (fun σ' => (vw 0 σ' = (tkN (μ, 0, nI 0, g) (stK μ g)).1) ∧ (LR 0 σ' (nA (tkN (μ, 0, nI 0, g) (stK μ g)).1 7) (tkN (μ, 0, nI 0, g) (stK μ g)).2.2.2) ∧ (∀ a, (528 ≤ a ∧ (a < 4900 ∨ 6000 ≤ a)) → σ' a = σ a)) := hQ
  have hN8 := mi_8 hI
  have hcFR_σ : ∀ a, (528 ≤ a ∧ (a < 4900 ∨ 6000 ≤ a)) → σ a = σ a := fun _ _ => rfl
  show G X w 2 0 [(0, .ref (w.1 0))] [] σ
  refine g_iconst h dX12_settlesNow_0 (by decide) ?_
  refine g_istore_n (L' := [(0, .ref (w.1 0)), (1, .int (nI 0))]) h dX12_settlesNow_1 rfl (by decide) rfl ?_
  refine g_aload_n h dX12_settlesNow_2 0 rfl ?_
  refine g_iconstv h dX12_settlesNow_3 (v := (-1)) (by decide) ?_
  refine g_puti h dX12_settlesNow_4 pX12_105 sc_0 rfl ?_
  refine g_nm (fun σa eσa => ?_)
  have eσa : σa = upd σ 4901 (-1) := eσa
  have hcLR_σa : LR 0 σa nt g := by rw [eσa]; exact LR.fr hcLR_σ (fun a ha => upd_ne (by first | omega | (simp only [vb] at *; omega)))
  have hcFR_σa : ∀ a, (528 ≤ a ∧ (a < 4900 ∨ 6000 ≤ a)) → σa a = σ a := by intro a ha; exact Eq.trans (b := σ a) (by rw [eσa, upd_ne (by first | omega | (simp only [vb] at *; omega))]) (hcFR_σ a ha)
  have hvσa : vw 0 σa = μ := by rw [eσa, vw_out (by omega)]; first | exact hv | assumption
  have hcRLs_σa : RLs σa 0 0 (nI 0) := Or.inl ⟨by rw [eσa]; exact upd_eq, rfl⟩
  have lp7 : ∀ (k9 : Nat) (n : Nat) (μ1 : Nat → Int32) (d1 : Nat) (lo1 : Int32) (n1 : Nat) (g1 : Nat → Nat → Int32) (τ : Mem), (tkN (μ, 0, nI 0, g) n = (μ1, d1, lo1, g1)) → (n ≤ 120) → (∀ x, x < n → tld (tkN (μ, 0, nI 0, g) x).1 = false) → (μ1 7 = nI n1) → (n1 ≤ nt + 8 * n) → (vw 0 τ = μ1) → (LR 0 τ n1 g1) → (∀ a, (528 ≤ a ∧ (a < 4900 ∨ 6000 ≤ a)) → τ a = σ a) → (RLs τ d1 0 lo1) → 120 - n < k9 → G X w 2 7 [(0, .ref (w.1 0)), (1, .int (nI n))] [] (τ) := by
    intro k9
    induction k9 with
    | zero => intro n μ1 d1 lo1 n1 g1 τ hT hn hno h71 hn1 hvτ hcLR_τ hcFR_τ hcRLs_τ hm9; exact absurd hm9 (Nat.not_lt_zero _)
    | succ k9 ih7 =>
      intro n μ1 d1 lo1 n1 g1 τ hT hn hno h71 hn1 hvτ hcLR_τ hcFR_τ hcRLs_τ hm7
      have hA := tkN_all (s := (μ, 0, nI 0, g)) hI n
      rw [hT] at hA
      have hI1 : MI μ1 := hA.1
      refine g_iload_n h dX12_settlesNow_7 1 rfl ?_
      refine g_bipush h dX12_settlesNow_8 (by decide) ?_
      refine g_icmpN_ge h dX12_settlesNow_10 (by omega) (by omega) (fun c10 => ?_) (fun c10 => ?_)
      ·
        refine g_aload_n h dX12_settlesNow_30 0 rfl ?_
        refine g_cvi (rest := []) h (r_isTold hW μ1 (by first | exact hvτ | assumption | fail) (by exact hI1)) lX12_isTold mX12_333 (Nat.lt_of_lt_of_le (by decide) (Nat.le_refl _)) (by decide) sc_0 rfl rfl rfl rfl dX12_settlesNow_31 (fun σ_1 eσ_1 => ?_)
        have eσ_1_a : ∀ a, (a < 5150 ∨ 5168 ≤ a) → σ_1 a = (τ) a := eσ_1
        have hcLR_σ_1 : LR 0 σ_1 n1 g1 := by exact LR.fr hcLR_τ (fun a ha => eσ_1_a a (by first | omega | (simp only [vb] at *; omega)))
        have hcFR_σ_1 : ∀ a, (528 ≤ a ∧ (a < 4900 ∨ 6000 ≤ a)) → σ_1 a = σ a := by intro a ha; exact Eq.trans (b := (τ) a) (eσ_1_a a (by first | omega | (simp only [vb] at *; omega))) (hcFR_τ a ha)
        have hcRLs_σ_1 : RLs σ_1 d1 0 lo1 := by exact RLs.fr hcRLs_τ (eσ_1_a _ (by omega)) (eσ_1_a _ (by omega)) (eσ_1_a _ (by omega))
        have hvσ_1 : vw 0 σ_1 = μ1 := by rw [vw_fr (σ := (τ)) (fun j _ _ => eσ_1_a _ (by first | omega | (simp only [vb] at *; omega)))]; first | exact hvτ | assumption
        refine g_ifB_eq h dX12_settlesNow_34 (fun c34 => ?_) (fun c34 => ?_)
        ·
          have hS : stO μ g = none := fs_none (fun x hx => if e9 : x = n then (by rw [e9, hT]; exact c34) else hno x (by omega))
          have hK : stK μ g = n := by unfold stK; rw [hS]; show 120 = n; omega
          refine g_iconstv h dX12_settlesNow_41 (v := (-1)) (by decide) ?_
          exact g_iret h hQ dX12_settlesNow_42 (congrArg (fun z => some (Value.int z)) (show (oI (stO μ g)) = (-1) by rw [hS]; rfl)) (by exact ⟨(by rw [hK, hT]; exact hvσ_1), (by rw [hK, hT]; dsimp only; rw [nA_nI (by omega) h71]; exact hcLR_σ_1), (by exact hcFR_σ_1)⟩)
        ·
          have hS : stO μ g = some n := fs_here hno (by rw [hT]; exact c34) 121 (by omega)
          have hK : stK μ g = n := by unfold stK; rw [hS]
          refine g_iload_n h dX12_settlesNow_37 1 rfl ?_
          refine g_goto h dX12_settlesNow_38 ?_
          exact g_iret h hQ dX12_settlesNow_42 (congrArg (fun z => some (Value.int z)) (show (oI (stO μ g)) = (nI n) by rw [hS]; rfl)) (by exact ⟨(by rw [hK, hT]; exact hvσ_1), (by rw [hK, hT]; dsimp only; rw [nA_nI (by omega) h71]; exact hcLR_σ_1), (by exact hcFR_σ_1)⟩)
      ·
        refine g_aload_n h dX12_settlesNow_13 0 rfl ?_
        refine g_cvi (rest := []) h (r_isTold hW μ1 (by first | exact hvτ | assumption | fail) (by exact hI1)) lX12_isTold mX12_333 (Nat.lt_of_lt_of_le (by decide) (Nat.le_refl _)) (by decide) sc_0 rfl rfl rfl rfl dX12_settlesNow_14 (fun σ_2 eσ_2 => ?_)
        have eσ_2_a : ∀ a, (a < 5150 ∨ 5168 ≤ a) → σ_2 a = (τ) a := eσ_2
        have hcLR_σ_2 : LR 0 σ_2 n1 g1 := by exact LR.fr hcLR_τ (fun a ha => eσ_2_a a (by first | omega | (simp only [vb] at *; omega)))
        have hcFR_σ_2 : ∀ a, (528 ≤ a ∧ (a < 4900 ∨ 6000 ≤ a)) → σ_2 a = σ a := by intro a ha; exact Eq.trans (b := (τ) a) (eσ_2_a a (by first | omega | (simp only [vb] at *; omega))) (hcFR_τ a ha)
        have hcRLs_σ_2 : RLs σ_2 d1 0 lo1 := by exact RLs.fr hcRLs_τ (eσ_2_a _ (by omega)) (eσ_2_a _ (by omega)) (eσ_2_a _ (by omega))
        have hvσ_2 : vw 0 σ_2 = μ1 := by rw [vw_fr (σ := (τ)) (fun j _ _ => eσ_2_a _ (by first | omega | (simp only [vb] at *; omega)))]; first | exact hvτ | assumption
        refine g_ifB_ne h dX12_settlesNow_17 (fun c17 => ?_) (fun c17 => ?_)
        ·
          have hS : stO μ g = some n := fs_here hno (by rw [hT]; exact c17) 121 (by omega)
          have hK : stK μ g = n := by unfold stK; rw [hS]
          refine g_aload_n h dX12_settlesNow_30 0 rfl ?_
          refine g_cvi (rest := []) h (r_isTold hW μ1 (by first | exact hvσ_2 | assumption | fail) (by exact hI1)) lX12_isTold mX12_333 (Nat.lt_of_lt_of_le (by decide) (Nat.le_refl _)) (by decide) sc_0 rfl rfl rfl rfl dX12_settlesNow_31 (fun σ_3 eσ_3 => ?_)
          have eσ_3_a : ∀ a, (a < 5150 ∨ 5168 ≤ a) → σ_3 a = σ_2 a := eσ_3
          have hcLR_σ_3 : LR 0 σ_3 n1 g1 := by exact LR.fr hcLR_σ_2 (fun a ha => eσ_3_a a (by first | omega | (simp only [vb] at *; omega)))
          have hcFR_σ_3 : ∀ a, (528 ≤ a ∧ (a < 4900 ∨ 6000 ≤ a)) → σ_3 a = σ a := by intro a ha; exact Eq.trans (b := σ_2 a) (eσ_3_a a (by first | omega | (simp only [vb] at *; omega))) (hcFR_σ_2 a ha)
          have hcRLs_σ_3 : RLs σ_3 d1 0 lo1 := by exact RLs.fr hcRLs_σ_2 (eσ_3_a _ (by omega)) (eσ_3_a _ (by omega)) (eσ_3_a _ (by omega))
          have hvσ_3 : vw 0 σ_3 = μ1 := by rw [vw_fr (σ := σ_2) (fun j _ _ => eσ_3_a _ (by first | omega | (simp only [vb] at *; omega)))]; first | exact hvσ_2 | assumption
          refine g_ifB_eq h dX12_settlesNow_34 (fun c34 => absurd (c17.symm.trans c34) (by decide)) (fun c34 => ?_)
          refine g_iload_n h dX12_settlesNow_37 1 rfl ?_
          refine g_goto h dX12_settlesNow_38 ?_
          exact g_iret h hQ dX12_settlesNow_42 (congrArg (fun z => some (Value.int z)) (show (oI (stO μ g)) = (nI n) by rw [hS]; rfl)) (by exact ⟨(by rw [hK, hT]; exact hvσ_3), (by rw [hK, hT]; dsimp only; rw [nA_nI (by omega) h71]; exact hcLR_σ_3), (by exact hcFR_σ_3)⟩)
        ·
          refine g_aload_n h dX12_settlesNow_20 0 rfl ?_
          refine g_cvv (rest := []) h (r_ticks hW μ1 d1 0 n1 lo1 g1 (by first | exact hvσ_2 | assumption | fail) (by exact hI1) (by exact h71) (by omega) (by first | exact hcRLs_σ_2 | assumption | fail) (by first | exact hcLR_σ_2 | assumption | fail)) lX12_ticks mX12_336 (Nat.lt_of_lt_of_le (by decide) (Nat.le_refl _)) (by decide) sc_0 rfl rfl rfl rfl dX12_settlesNow_21 (fun σ_4 eσ_4 => ?_)
          obtain ⟨eσ_4_a, eσ_4_b, eσ_4_c, eσ_4_d⟩ := eσ_4
          have eσ_4_a : vw 0 σ_4 = (tkF 0 (μ1, d1, lo1, g1)).1 := eσ_4_a
          have eσ_4_b : RLs σ_4 (tkF 0 (μ1, d1, lo1, g1)).2.1 0 (tkF 0 (μ1, d1, lo1, g1)).2.2.1 := eσ_4_b
          have eσ_4_c : LR 0 σ_4 (nA (tkF 0 (μ1, d1, lo1, g1)).1 7) (tkF 0 (μ1, d1, lo1, g1)).2.2.2 := eσ_4_c
          have eσ_4_d : ∀ a, (528 ≤ a ∧ (a < 4900 ∨ a = 4901 ∨ 6000 ≤ a)) → σ_4 a = σ_2 a := eσ_4_d
          have hcLR_σ_4 : LR 0 σ_4 (nA (tkF 0 (μ1, d1, lo1, g1)).1 7) (tkF 0 (μ1, d1, lo1, g1)).2.2.2 := eσ_4_c
          have hcFR_σ_4 : ∀ a, (528 ≤ a ∧ (a < 4900 ∨ 6000 ≤ a)) → σ_4 a = σ a := by intro a ha; exact Eq.trans (b := σ_2 a) (eσ_4_d a (by first | omega | (simp only [vb] at *; omega))) (hcFR_σ_2 a ha)
          have hcRLs_σ_4 : RLs σ_4 (tkF 0 (μ1, d1, lo1, g1)).2.1 0 (tkF 0 (μ1, d1, lo1, g1)).2.2.1 := eσ_4_b
          obtain ⟨μ_5, eμ_5⟩ : ∃ μ_5 : Nat → Int32, μ_5 = (tkF 0 (μ1, d1, lo1, g1)).1 := ⟨_, rfl⟩
          have hvσ_4 : vw 0 σ_4 = μ_5 := by rw [eμ_5]; exact eσ_4_a
          obtain ⟨n7, hn7, e7⟩ := tkF_7 (ls := 0) (s := (μ1, d1, lo1, g1)) hI1 h71
          have e7n : n7 = nA (tkF 0 (μ1, d1, lo1, g1)).1 7 := (nA_nI (by omega) e7).symm
          have h7n : (tkF 0 (μ1, d1, lo1, g1)).1 7 = nI (nA (tkF 0 (μ1, d1, lo1, g1)).1 7) := by rw [← e7n]; exact e7
          refine g_iincN (b := 1) (L' := [(0, .ref (w.1 0)), (1, .int (nI (n + 1)))]) h dX12_settlesNow_24 1 rfl rfl (by decide) (by decide) rfl ?_
          refine g_goto h dX12_settlesNow_27 ?_
          exact ih7 (n + 1) μ_5 ((tkF 0 (μ1, d1, lo1, g1)).2.1) ((tkF 0 (μ1, d1, lo1, g1)).2.2.1) (nA (tkF 0 (μ1, d1, lo1, g1)).1 7) ((tkF 0 (μ1, d1, lo1, g1)).2.2.2) σ_4 (by rw [tkN, hT, eμ_5]) (by omega) (by intro x hx; exact if e9 : x = n then (by rw [e9, hT]; exact c17) else hno x (by omega)) (by rw [eμ_5]; exact h7n) (by rw [← e7n]; omega) (by first | exact hvσ_4 | assumption | fail | fail) (by first | exact hcLR_σ_4 | assumption | fail | fail) (by first | exact hcFR_σ_4 | assumption | fail | fail) (by first | exact hcRLs_σ_4 | assumption | fail | fail) (by omega)
  exact lp7 (_) 0 μ 0 (nI 0) nt g σa (by rfl) (by omega) (by intro x hx; omega) (by exact h7) (by omega) (by first | exact hvσa | assumption | fail | fail) (by first | exact hcLR_σa | assumption | fail | fail) (by first | exact hcFR_σa | assumption | fail | fail) (by first | exact hcRLs_σa | assumption | fail | fail) (Nat.lt_succ_self _)

set_option maxRecDepth 100000 in
set_option maxHeartbeats 4000000 in
theorem c_allIsTold {l : Launch} {w : Wd} (hW : Wi w) {σ : Mem} (m : Nat) (μ : Nat → Int32) (hm : m < 6) (hv : vw (vb m) σ = μ) (hI : MI μ) : MC l w qX11_allIsTold 4 [.ref (w.1 12), .ref (w.1 (mc m 0))] σ (some (.int (b2i (tld μ)))) (fun σ' => (∀ a, (a ≠ 15030 ∧ (a < 15180 ∨ 15394 ≤ a)) → σ' a = σ a)) := by
  refine MC.of hW (by decide +kernel) (Nat.le_of_ble_eq_true rfl) (fun X h hQ hnm => ?_)
  have h : Fx X w cX11_allIsTold 4 RX11 4 := h
  have hQ : Qx X w (some .boolean) (some (.int (b2i (tld μ)))) (fun σ' => (∀ a, (a ≠ 15030 ∧ (a < 15180 ∨ 15394 ≤ a)) → σ' a = σ a)) := hQ
  have hN8 := mi_8 hI
  have hcFR_σ : ∀ a, (a ≠ 15030 ∧ (a < 15180 ∨ 15394 ≤ a)) → σ a = σ a := fun _ _ => rfl
  show G X w 4 0 [(0, .ref (w.1 12)), (1, .ref (w.1 (mc m 0)))] [] σ
  refine g_aload_n h dX11_allIsTold_0 0 rfl ?_
  refine g_getr h dX11_allIsTold_1 gX11_65 sc_12 rfl ?_
  refine g_aload_n h dX11_allIsTold_4 1 rfl ?_
  refine g_cvv (rest := []) h (c_see hW m μ (by first | omega | decide | fail) (by first | exact hv | assumption | fail) (by assumption)) lX10_see mX11_305 (Nat.lt_of_lt_of_le (by decide) (Nat.le_refl _)) (by decide) sc_25 rfl rfl rfl rfl dX11_allIsTold_5 (fun σ_1 eσ_1 => ?_)
  obtain ⟨eσ_1_a, eσ_1_b⟩ := eσ_1
  have eσ_1_a : TR σ_1 μ := eσ_1_a
  have eσ_1_b : ∀ a, (a ≠ 15030 ∧ (a < 15180 ∨ 15188 ≤ a) ∧ (a < 15330 ∨ 15394 ≤ a)) → σ_1 a = σ a := eσ_1_b
  have hcFR_σ_1 : ∀ a, (a ≠ 15030 ∧ (a < 15180 ∨ 15394 ≤ a)) → σ_1 a = σ a := by intro a ha; exact Eq.trans (b := σ a) (eσ_1_b a (by first | omega | (simp only [vb] at *; omega))) (hcFR_σ a ha)
  have hcTR_σ_1 : TR σ_1 μ := eσ_1_a
  have hvσ_1 : vw (vb m) σ_1 = μ := by rw [vw_fr (σ := σ) (fun j _ _ => eσ_1_b _ (by first | omega | (simp only [vb] at *; omega)))]; first | exact hv | assumption
  refine g_iconst h dX11_allIsTold_8 (by decide) ?_
  refine g_istore_n (L' := [(0, .ref (w.1 12)), (1, .ref (w.1 (mc m 0))), (2, .int (nI 0))]) h dX11_allIsTold_9 rfl (by decide) rfl ?_
  have lp10 : ∀ (k9 : Nat) (i : Nat) (τ : Mem), (i ≤ nN μ) → (∀ x, x < i → tl1 μ x = false) → (vw (vb m) τ = μ) → (∀ a, (a ≠ 15030 ∧ (a < 15180 ∨ 15394 ≤ a)) → τ a = σ a) → (TR τ μ) → nN μ - i < k9 → G X w 4 10 [(0, .ref (w.1 12)), (1, .ref (w.1 (mc m 0))), (2, .int (nI i))] [] (τ) := by
    intro k9
    induction k9 with
    | zero => intro i τ hi hno hvτ hcFR_τ hcTR_τ hm9; exact absurd hm9 (Nat.not_lt_zero _)
    | succ k9 ih10 =>
      intro i τ hi hno hvτ hcFR_τ hcTR_τ hm10
      refine g_iload_n h dX11_allIsTold_10 2 rfl ?_
      refine g_aload_n h dX11_allIsTold_11 1 rfl ?_
      refine g_geti h dX11_allIsTold_12 gX11_120 (sM_0 (m := m) (by omega)) rfl ?_
      refine g_top (y := μ 0) (vw_pic (b := (vb m)) (k := 0) (by first | exact hvτ | assumption) (by omega)) ?_
      refine g_top (y := nI (nN μ)) (mi_0 (by assumption)) ?_
      refine g_icmpN_ge h dX11_allIsTold_15 (by omega) (by omega) (fun c15 => ?_) (fun c15 => ?_)
      ·
        refine g_iconst h dX11_allIsTold_88 (by decide) ?_
        exact g_zret h hQ dX11_allIsTold_89 (show narrow .boolean (.int (b2i true)) = .int (b2i true) from narrow_b2i _) (congrArg (fun z => some (Value.int (b2i z))) (show (tld μ) = true by first | exact tld_t (by omega) hno | exact tld_f (n := i) (by omega) (by unfold tl1; rw [c23, anyB_iff.mpr ⟨j, by omega, by simp; omega⟩]; rfl) | fail)) (by exact hcFR_τ)
      ·
        refine g_aload_n h dX11_allIsTold_18 1 rfl ?_
        refine g_iload_n h dX11_allIsTold_19 2 rfl ?_
        refine g_cvpi (rest := []) h (c_isOnJ hW i m μ (by first | omega | decide | fail) (by first | exact hvτ | assumption | fail) (by assumption) (by omega)) lX5_isOn mX11_167 (Nat.lt_of_lt_of_le (by decide) (Nat.le_refl _)) (by decide) (sM_0 (m := m) (by omega)) rfl rfl rfl rfl dX11_allIsTold_20 ?_
        refine g_ifB_eq h dX11_allIsTold_23 (fun c23 => ?_) (fun c23 => ?_)
        ·
          refine g_iincN (b := 1) (L' := [(0, .ref (w.1 12)), (1, .ref (w.1 (mc m 0))), (2, .int (nI (i + 1)))]) h dX11_allIsTold_82 2 rfl rfl (by decide) (by decide) rfl ?_
          refine g_goto h dX11_allIsTold_85 ?_
          exact ih10 (i + 1) (τ) (by omega) (by intro x hx; exact if e9 : x = i then (by rw [e9]; first | (simp [tl1, c23]; done) | (unfold tl1; rw [anyB_f (fun y hy => by simp [hno2 y (by omega)])]; simp)) else hno x (by omega)) (by first | exact hvτ | assumption | fail | fail) (by first | exact hcFR_τ | assumption | fail | fail) (by first | exact hcTR_τ | assumption | fail | fail) (by omega)
        ·
          refine g_aload_n h dX11_allIsTold_26 0 rfl ?_
          refine g_getr h dX11_allIsTold_27 gX11_51 sc_12 rfl ?_
          refine g_aload_n h dX11_allIsTold_30 1 rfl ?_
          refine g_iload_n h dX11_allIsTold_31 2 rfl ?_
          refine g_cvv (rest := []) h (c_find hW i m μ (by first | omega | decide | fail) (by first | exact hvτ | assumption | fail) (by assumption) (by omega)) lX8_find mX11_269 (Nat.lt_of_lt_of_le (by decide) (Nat.le_refl _)) (by decide) sc_20 rfl rfl rfl rfl dX11_allIsTold_32 (fun σ_2 eσ_2 => ?_)
          obtain ⟨eσ_2_a, eσ_2_b⟩ := eσ_2
          have eσ_2_a : CR σ_2 i (rts μ i 6) (nN μ) := eσ_2_a
          have eσ_2_b : ∀ a, ((a < 15200 + 8 * i ∨ 15208 + 8 * i ≤ a) ∧ (a < 15264 + 8 * i ∨ 15272 + 8 * i ≤ a)) → σ_2 a = (τ) a := eσ_2_b
          have hcFR_σ_2 : ∀ a, (a ≠ 15030 ∧ (a < 15180 ∨ 15394 ≤ a)) → σ_2 a = σ a := by intro a ha; exact Eq.trans (b := (τ) a) (eσ_2_b a (by first | omega | (simp only [vb] at *; omega))) (hcFR_τ a ha)
          have hcTR_σ_2 : TR σ_2 μ := by exact TR.fr hcTR_τ (fun a ha hb => eσ_2_b a (by first | omega | (simp only [vb] at *; omega)))
          have hcCR_σ_2 : CR σ_2 i (rts μ i 6) (nN μ) := eσ_2_a
          have hvσ_2 : vw (vb m) σ_2 = μ := by rw [vw_fr (σ := (τ)) (fun j _ _ => eσ_2_b _ (by first | omega | (simp only [vb] at *; omega)))]; first | exact hvτ | assumption
          refine g_iconst h dX11_allIsTold_35 (by decide) ?_
          refine g_istore_n (L' := [(0, .ref (w.1 12)), (1, .ref (w.1 (mc m 0))), (2, .int (nI i)), (3, .int (nI 0))]) h dX11_allIsTold_36 rfl (by decide) rfl ?_
          have lp37 : ∀ (k9 : Nat) (j : Nat), (j ≤ nN μ) → (∀ y, y < j → rs (rts μ i 6) y = far μ i y) → nN μ - j < k9 → G X w 4 37 [(0, .ref (w.1 12)), (1, .ref (w.1 (mc m 0))), (2, .int (nI i)), (3, .int (nI j))] [] σ_2 := by
            intro k9
            induction k9 with
            | zero => intro j hj hno2 hm9; exact absurd hm9 (Nat.not_lt_zero _)
            | succ k9 ih37 =>
              intro j hj hno2 hm37
              have hbj := rts_rb hI (show i < 8 by omega) 6 (by omega) j
              have hfj := far_lt (μ := μ) (f := i) (t := j)
              refine g_iload_n h dX11_allIsTold_37 3 rfl ?_
              refine g_aload_n h dX11_allIsTold_38 1 rfl ?_
              refine g_geti h dX11_allIsTold_39 gX11_120 (sM_0 (m := m) (by omega)) rfl ?_
              refine g_top (y := μ 0) (vw_pic (b := (vb m)) (k := 0) (by first | exact hvσ_2 | assumption) (by omega)) ?_
              refine g_top (y := nI (nN μ)) (mi_0 (by assumption)) ?_
              refine g_icmpN_ge h dX11_allIsTold_42 (by omega) (by omega) (fun c42 => ?_) (fun c42 => ?_)
              ·
                refine g_iincN (b := 1) (L' := [(0, .ref (w.1 12)), (1, .ref (w.1 (mc m 0))), (2, .int (nI (i + 1))), (3, .int (nI j))]) h dX11_allIsTold_82 2 rfl rfl (by decide) (by decide) rfl ?_
                refine g_goto h dX11_allIsTold_85 ?_
                exact g_sub [0, 1, 2] rfl (ih10 (i + 1) σ_2 (by omega) (by intro x hx; exact if e9 : x = i then (by rw [e9]; first | (simp [tl1, c23]; done) | (unfold tl1; rw [anyB_f (fun y hy => by simp [hno2 y (by omega)])]; simp)) else hno x (by omega)) (by first | exact hvσ_2 | assumption | fail | fail) (by first | exact hcFR_σ_2 | assumption | fail | fail) (by first | exact hcTR_σ_2 | assumption | fail | fail) (by omega))
              ·
                refine g_aload_n h dX11_allIsTold_45 0 rfl ?_
                refine g_getr h dX11_allIsTold_46 gX11_51 sc_12 rfl ?_
                refine g_getr h dX11_allIsTold_49 gX11_273 sc_20 rfl ?_
                refine g_iload_n h dX11_allIsTold_52 2 rfl ?_
                refine g_iload_n h dX11_allIsTold_53 3 rfl ?_
                refine g_cspi (rest := [.ref (w.1 21)]) h (c_at hW i j ) lX5_at mX11_215 (Nat.lt_of_lt_of_le (by decide) (Nat.le_refl _)) (by decide) rfl rfl rfl dX11_allIsTold_54 ?_
                refine g_iald h dX11_allIsTold_57 sc_21 (by omega) ?_
                refine g_top (y := (nI (rs (rts μ i 6) j))) ((hcCR_σ_2 j (by omega)).1) ?_
                refine g_aload_n h dX11_allIsTold_58 0 rfl ?_
                refine g_getr h dX11_allIsTold_59 gX11_65 sc_12 rfl ?_
                refine g_getr h dX11_allIsTold_62 gX11_308 sc_25 rfl ?_
                refine g_iload_n h dX11_allIsTold_65 2 rfl ?_
                refine g_iload_n h dX11_allIsTold_66 3 rfl ?_
                refine g_cspi (rest := [.ref (w.1 27), .int (nI (rs (rts μ i 6) j))]) h (c_at hW i j ) lX5_at mX11_215 (Nat.lt_of_lt_of_le (by decide) (Nat.le_refl _)) (by decide) rfl rfl rfl dX11_allIsTold_67 ?_
                refine g_iald h dX11_allIsTold_70 sc_27 (by omega) ?_
                refine g_top (y := (nI (far μ i j))) ((hcTR_σ_2).2.2 i (by omega) j (by omega)) ?_
                refine g_icmpN_eq h dX11_allIsTold_71 (by omega) (by omega) (fun c71 => ?_) (fun c71 => ?_)
                ·
                  refine g_iincN (b := 1) (L' := [(0, .ref (w.1 12)), (1, .ref (w.1 (mc m 0))), (2, .int (nI i)), (3, .int (nI (j + 1)))]) h dX11_allIsTold_76 3 rfl rfl (by decide) (by decide) rfl ?_
                  refine g_goto h dX11_allIsTold_79 ?_
                  exact ih37 (j + 1) (by omega) (by intro y hy; exact if e9 : y = j then (by rw [e9]; omega) else hno2 y (by omega)) (by omega)
                ·
                  refine g_iconst h dX11_allIsTold_74 (by decide) ?_
                  exact g_zret h hQ dX11_allIsTold_75 (show narrow .boolean (.int (b2i false)) = .int (b2i false) from narrow_b2i _) (congrArg (fun z => some (Value.int (b2i z))) (show (tld μ) = false by first | exact tld_t (by omega) hno | exact tld_f (n := i) (by omega) (by unfold tl1; rw [c23, anyB_iff.mpr ⟨j, by omega, by simp; omega⟩]; rfl) | fail)) (by exact hcFR_σ_2)
          exact lp37 (_) 0 (by omega) (by intro y hy; omega) (Nat.lt_succ_self _)
  exact lp10 (_) 0 σ_1 (by omega) (by intro x hx; omega) (by first | exact hvσ_1 | assumption | fail | fail) (by first | exact hcFR_σ_1 | assumption | fail | fail) (by first | exact hcTR_σ_1 | assumption | fail | fail) (Nat.lt_succ_self _)

set_option maxRecDepth 100000 in
set_option maxHeartbeats 4000000 in
theorem c_begin {l : Launch} {w : Wd} (hW : Wi w) {σ : Mem} (d ls : Nat) (hd : d < 243000) (hls : ls ≤ 16) : MC l w qX4_begin 0 [.ref (w.1 30), .int (nI d), .int (nI ls)] σ none (fun σ' => (CL σ' d ls (nI 0)) ∧ (∀ a, (a < 14900 ∨ 14903 ≤ a) → σ' a = σ a)) := by
  refine MC.of hW (by decide +kernel) (Nat.le_of_ble_eq_true rfl) (fun X h hQ hnm => ?_)
  have h : Fx X w cX4_begin 3 RX4 0 := h
  have hQ : Qx X w none none (fun σ' => (CL σ' d ls (nI 0)) ∧ (∀ a, (a < 14900 ∨ 14903 ≤ a) → σ' a = σ a)) := hQ
  have hcFR_σ : ∀ a, (a < 14900 ∨ 14903 ≤ a) → σ a = σ a := fun _ _ => rfl
  show G X w 3 0 [(0, .ref (w.1 30)), (1, .int (nI d)), (2, .int (nI ls))] [] σ
  refine g_aload_n h dX4_begin_0 0 rfl ?_
  refine g_iconst h dX4_begin_1 (by decide) ?_
  refine g_puti h dX4_begin_2 pX4_7 sc_30 rfl ?_
  refine g_nm (fun σ_1 eσ_1 => ?_)
  have eσ_1 : σ_1 = upd σ 14902 (nI 0) := eσ_1
  have ht14902_σ_1 : σ_1 14902 = (nI 0) := by rw [eσ_1]; exact upd_eq
  have hcFR_σ_1 : ∀ a, (a < 14900 ∨ 14903 ≤ a) → σ_1 a = σ a := by intro a ha; exact Eq.trans (b := σ a) (by rw [eσ_1, upd_ne (by first | omega | (simp only [vb] at *; omega))]) (hcFR_σ a ha)
  refine g_aload_n h dX4_begin_5 0 rfl ?_
  refine g_iload_n h dX4_begin_6 1 rfl ?_
  refine g_puti h dX4_begin_7 pX4_13 sc_30 rfl ?_
  refine g_nm (fun σ_2 eσ_2 => ?_)
  have eσ_2 : σ_2 = upd σ_1 14900 (nI d) := eσ_2
  have ht14902_σ_2 : σ_2 14902 = (nI 0) := by rw [eσ_2, upd_ne (by first | omega | (simp only [vb] at *; omega))]; first | exact ht14902_σ_1 | assumption
  have ht14900_σ_2 : σ_2 14900 = (nI d) := by rw [eσ_2]; exact upd_eq
  have hcFR_σ_2 : ∀ a, (a < 14900 ∨ 14903 ≤ a) → σ_2 a = σ a := by intro a ha; exact Eq.trans (b := σ_1 a) (by rw [eσ_2, upd_ne (by first | omega | (simp only [vb] at *; omega))]) (hcFR_σ_1 a ha)
  refine g_aload_n h dX4_begin_10 0 rfl ?_
  refine g_iload_n h dX4_begin_11 2 rfl ?_
  refine g_puti h dX4_begin_12 pX4_16 sc_30 rfl ?_
  refine g_nm (fun σ_3 eσ_3 => ?_)
  have eσ_3 : σ_3 = upd σ_2 14901 (nI ls) := eσ_3
  have ht14902_σ_3 : σ_3 14902 = (nI 0) := by rw [eσ_3, upd_ne (by first | omega | (simp only [vb] at *; omega))]; first | exact ht14902_σ_2 | assumption
  have ht14900_σ_3 : σ_3 14900 = (nI d) := by rw [eσ_3, upd_ne (by first | omega | (simp only [vb] at *; omega))]; first | exact ht14900_σ_2 | assumption
  have ht14901_σ_3 : σ_3 14901 = (nI ls) := by rw [eσ_3]; exact upd_eq
  have hcFR_σ_3 : ∀ a, (a < 14900 ∨ 14903 ≤ a) → σ_3 a = σ a := by intro a ha; exact Eq.trans (b := σ_2 a) (by rw [eσ_3, upd_ne (by first | omega | (simp only [vb] at *; omega))]) (hcFR_σ_2 a ha)
  exact g_vret h hQ dX4_begin_15 rfl (by exact ⟨(by exact ⟨ht14900_σ_3, ht14901_σ_3, ht14902_σ_3, hd, hls⟩), (by exact hcFR_σ_3)⟩)

set_option maxRecDepth 100000 in
set_option maxHeartbeats 8000000 in
theorem c_ticksTillTold {l : Launch} {w : Wd} (hW : Wi w) {σ : Mem} (nt : Nat) (g : Nat → Nat → Int32) (μ : Nat → Int32) (hv : vw (vb 1) σ = μ) (hI : MI μ) (h7 : μ 7 = nI nt) (hnt : nt + 1000 < 2 ^ 30) (hcLC_σ : LC (vb 1) σ nt g) : MC l w qX11_ticksTillTold 6 [.ref (w.1 12)] σ (some (.int (oI (stO μ g)))) (fun σ' => (vw (vb 1) σ' = (tkN (μ, 0, nI 0, g) (stC μ g)).1) ∧ (∀ a, ((a < vb 1 ∨ vb 1 + 528 ≤ a) ∧ a < 14900) → σ' a = σ a)) := by
  refine MC.of hW (by decide +kernel) (Nat.le_of_ble_eq_true rfl) (fun X h hQ hnm => ?_)
  have h : Fx X w cX11_ticksTillTold 2 RX11 6 := h
  have hQ : Qx X w (some .int) (some (.int (oI (stO μ g)))) (fun σ' => (vw (vb 1) σ' = (tkN (μ, 0, nI 0, g) (stC μ g)).1) ∧ (∀ a, ((a < vb 1 ∨ vb 1 + 528 ≤ a) ∧ a < 14900) → σ' a = σ a)) := hQ
  have hN8 := mi_8 hI
  have hcFR_σ : ∀ a, ((a < vb 1 ∨ vb 1 + 528 ≤ a) ∧ a < 14900) → σ a = σ a := fun _ _ => rfl
  show G X w 2 0 [(0, .ref (w.1 12))] [] σ
  refine g_aload_n h dX11_ticksTillTold_0 0 rfl ?_
  refine g_getr h dX11_ticksTillTold_1 gX11_79 sc_12 rfl ?_
  refine g_iconst h dX11_ticksTillTold_4 (by decide) ?_
  refine g_iconst h dX11_ticksTillTold_5 (by decide) ?_
  refine g_cvv (rest := []) h (c_begin hW 0 0 (by omega) (by omega)) lX4_begin mX11_349 (Nat.lt_of_lt_of_le (by decide) (Nat.le_refl _)) (by decide) sc_30 rfl rfl rfl rfl dX11_ticksTillTold_6 (fun σ_1 eσ_1 => ?_)
  obtain ⟨eσ_1_a, eσ_1_b⟩ := eσ_1
  have eσ_1_a : CL σ_1 0 0 (nI 0) := eσ_1_a
  have eσ_1_b : ∀ a, (a < 14900 ∨ 14903 ≤ a) → σ_1 a = σ a := eσ_1_b
  have hcLC_σ_1 : LC (vb 1) σ_1 nt g := by exact LC.fr hcLC_σ (fun a ha hb => eσ_1_b a (by first | omega | (simp only [vb] at *; omega)))
  have hcFR_σ_1 : ∀ a, ((a < vb 1 ∨ vb 1 + 528 ≤ a) ∧ a < 14900) → σ_1 a = σ a := by intro a ha; exact Eq.trans (b := σ a) (eσ_1_b a (by first | omega | (simp only [vb] at *; omega))) (hcFR_σ a ha)
  have hcCL_σ_1 : CL σ_1 0 0 (nI 0) := eσ_1_a
  have hvσ_1 : vw (vb 1) σ_1 = μ := by rw [vw_fr (σ := σ) (fun j _ _ => eσ_1_b _ (by first | omega | (simp only [vb] at *; omega)))]; first | exact hv | assumption
  refine g_iconst h dX11_ticksTillTold_9 (by decide) ?_
  refine g_istore_n (L' := [(0, .ref (w.1 12)), (1, .int (nI 0))]) h dX11_ticksTillTold_10 rfl (by decide) rfl ?_
  have lp11 : ∀ (k9 : Nat) (n : Nat) (μ1 : Nat → Int32) (d1 : Nat) (lo1 : Int32) (n1 : Nat) (g1 : Nat → Nat → Int32) (τ : Mem), (tkN (μ, 0, nI 0, g) n = (μ1, d1, lo1, g1)) → (n ≤ 121) → (∀ x, x < n → tld (tkN (μ, 0, nI 0, g) x).1 = false) → (μ1 7 = nI n1) → (n1 ≤ nt + 8 * n) → (vw (vb 1) τ = μ1) → (LC (vb 1) τ n1 g1) → (∀ a, ((a < vb 1 ∨ vb 1 + 528 ≤ a) ∧ a < 14900) → τ a = σ a) → (CL τ d1 0 lo1) → 121 - n < k9 → G X w 2 11 [(0, .ref (w.1 12)), (1, .int (nI n))] [] (τ) := by
    intro k9
    induction k9 with
    | zero => intro n μ1 d1 lo1 n1 g1 τ hT hn hno h71 hn1 hvτ hcLC_τ hcFR_τ hcCL_τ hm9; exact absurd hm9 (Nat.not_lt_zero _)
    | succ k9 ih11 =>
      intro n μ1 d1 lo1 n1 g1 τ hT hn hno h71 hn1 hvτ hcLC_τ hcFR_τ hcCL_τ hm11
      have hA := tkN_all (s := (μ, 0, nI 0, g)) hI n
      rw [hT] at hA
      have hI1 : MI μ1 := hA.1
      refine g_iload_n h dX11_ticksTillTold_11 1 rfl ?_
      refine g_bipush h dX11_ticksTillTold_12 (by decide) ?_
      refine g_icmpN_gt h dX11_ticksTillTold_14 (by omega) (by omega) (fun c14 => ?_) (fun c14 => ?_)
      ·
        have hS : stO μ g = none := fs_none (fun x hx => hno x (by omega))
        have hK : stC μ g = n := by unfold stC; rw [hS]; show 121 = n; omega
        refine g_iconstv h dX11_ticksTillTold_51 (v := (-1)) (by decide) ?_
        exact g_iret h hQ dX11_ticksTillTold_52 (congrArg (fun z => some (Value.int z)) (show (oI (stO μ g)) = (-1) by rw [hS]; rfl)) (by exact ⟨(by rw [hK, hT]; exact hvτ), (by exact hcFR_τ)⟩)
      ·
        refine g_aload_n h dX11_ticksTillTold_17 0 rfl ?_
        refine g_aload_n h dX11_ticksTillTold_18 0 rfl ?_
        refine g_getr h dX11_ticksTillTold_19 gX11_27 sc_12 rfl ?_
        refine g_cvi (rest := []) h (c_allIsTold hW 1 μ1 (by first | omega | decide | fail) (by first | exact hvτ | assumption | fail) (by exact hI1)) lX11_allIsTold mX11_312 (Nat.lt_of_lt_of_le (by decide) (Nat.le_refl _)) (by decide) sc_12 rfl rfl rfl rfl dX11_ticksTillTold_22 (fun σ_2 eσ_2 => ?_)
        have eσ_2_a : ∀ a, (a ≠ 15030 ∧ (a < 15180 ∨ 15394 ≤ a)) → σ_2 a = (τ) a := eσ_2
        have hcLC_σ_2 : LC (vb 1) σ_2 n1 g1 := by exact LC.fr hcLC_τ (fun a ha hb => eσ_2_a a (by first | omega | (simp only [vb] at *; omega)))
        have hcFR_σ_2 : ∀ a, ((a < vb 1 ∨ vb 1 + 528 ≤ a) ∧ a < 14900) → σ_2 a = σ a := by intro a ha; exact Eq.trans (b := (τ) a) (eσ_2_a a (by first | omega | (simp only [vb] at *; omega))) (hcFR_τ a ha)
        have hcCL_σ_2 : CL σ_2 d1 0 lo1 := by exact CL.fr hcCL_τ (eσ_2_a _ (by first | omega | (simp only [vb] at *; omega))) (eσ_2_a _ (by first | omega | (simp only [vb] at *; omega))) (eσ_2_a _ (by first | omega | (simp only [vb] at *; omega)))
        have hvσ_2 : vw (vb 1) σ_2 = μ1 := by rw [vw_fr (σ := (τ)) (fun j _ _ => eσ_2_a _ (by first | omega | (simp only [vb] at *; omega)))]; first | exact hvτ | assumption
        refine g_ifB_eq h dX11_ticksTillTold_25 (fun c25 => ?_) (fun c25 => ?_)
        ·
          refine g_aload_n h dX11_ticksTillTold_30 0 rfl ?_
          refine g_getr h dX11_ticksTillTold_31 gX11_88 sc_12 rfl ?_
          refine g_aload_n h dX11_ticksTillTold_34 0 rfl ?_
          refine g_getr h dX11_ticksTillTold_35 gX11_27 sc_12 rfl ?_
          refine g_aload_n h dX11_ticksTillTold_38 0 rfl ?_
          refine g_getr h dX11_ticksTillTold_39 gX11_79 sc_12 rfl ?_
          refine g_cvv (rest := []) h (c_step hW d1 0 n1 lo1 g1 1 μ1 (by first | omega | decide | fail) (by first | exact hvσ_2 | assumption | fail) (by exact hI1) (by exact h71) (by omega) (by first | exact hcCL_σ_2 | assumption | fail) (by first | exact hcLC_σ_2 | assumption | fail)) lX9_step mX11_379 (Nat.lt_of_lt_of_le (by decide) (Nat.le_refl _)) (by decide) sc_31 rfl rfl rfl rfl dX11_ticksTillTold_42 (fun σ_3 eσ_3 => ?_)
          obtain ⟨eσ_3_a, eσ_3_b, eσ_3_c, eσ_3_d⟩ := eσ_3
          have eσ_3_a : vw (vb 1) σ_3 = (tkF 0 (μ1, d1, lo1, g1)).1 := eσ_3_a
          have eσ_3_b : CL σ_3 (tkF 0 (μ1, d1, lo1, g1)).2.1 0 (tkF 0 (μ1, d1, lo1, g1)).2.2.1 := eσ_3_b
          have eσ_3_c : LC (vb 1) σ_3 (nA (tkF 0 (μ1, d1, lo1, g1)).1 7) (tkF 0 (μ1, d1, lo1, g1)).2.2.2 := eσ_3_c
          have eσ_3_d : ∀ a, ((a < vb 1 ∨ vb 1 + 528 ≤ a) ∧ a < 14900) → σ_3 a = σ_2 a := eσ_3_d
          have hcLC_σ_3 : LC (vb 1) σ_3 (nA (tkF 0 (μ1, d1, lo1, g1)).1 7) (tkF 0 (μ1, d1, lo1, g1)).2.2.2 := eσ_3_c
          have hcFR_σ_3 : ∀ a, ((a < vb 1 ∨ vb 1 + 528 ≤ a) ∧ a < 14900) → σ_3 a = σ a := by intro a ha; exact Eq.trans (b := σ_2 a) (eσ_3_d a (by first | omega | (simp only [vb] at *; omega))) (hcFR_σ_2 a ha)
          have hcCL_σ_3 : CL σ_3 (tkF 0 (μ1, d1, lo1, g1)).2.1 0 (tkF 0 (μ1, d1, lo1, g1)).2.2.1 := eσ_3_b
          obtain ⟨μ_4, eμ_4⟩ : ∃ μ_4 : Nat → Int32, μ_4 = (tkF 0 (μ1, d1, lo1, g1)).1 := ⟨_, rfl⟩
          have hvσ_3 : vw (vb 1) σ_3 = μ_4 := by rw [eμ_4]; exact eσ_3_a
          obtain ⟨n7, hn7, e7⟩ := tkF_7 (ls := 0) (s := (μ1, d1, lo1, g1)) hI1 h71
          have e7n : n7 = nA (tkF 0 (μ1, d1, lo1, g1)).1 7 := (nA_nI (by omega) e7).symm
          have h7n : (tkF 0 (μ1, d1, lo1, g1)).1 7 = nI (nA (tkF 0 (μ1, d1, lo1, g1)).1 7) := by rw [← e7n]; exact e7
          refine g_iincN (b := 1) (L' := [(0, .ref (w.1 12)), (1, .int (nI (n + 1)))]) h dX11_ticksTillTold_45 1 rfl rfl (by decide) (by decide) rfl ?_
          refine g_goto h dX11_ticksTillTold_48 ?_
          exact ih11 (n + 1) μ_4 ((tkF 0 (μ1, d1, lo1, g1)).2.1) ((tkF 0 (μ1, d1, lo1, g1)).2.2.1) (nA (tkF 0 (μ1, d1, lo1, g1)).1 7) ((tkF 0 (μ1, d1, lo1, g1)).2.2.2) σ_3 (by rw [tkN, hT, eμ_4]) (by omega) (by intro x hx; exact if e9 : x = n then (by rw [e9, hT]; exact c25) else hno x (by omega)) (by rw [eμ_4]; exact h7n) (by rw [← e7n]; omega) (by first | exact hvσ_3 | assumption | fail | fail) (by first | exact hcLC_σ_3 | assumption | fail | fail) (by first | exact hcFR_σ_3 | assumption | fail | fail) (by first | exact hcCL_σ_3 | assumption | fail | fail) (by omega)
        ·
          have hS : stO μ g = some n := fs_here hno (by rw [hT]; exact c25) 121 (by omega)
          have hK : stC μ g = n := by unfold stC; rw [hS]
          refine g_iload_n h dX11_ticksTillTold_28 1 rfl ?_
          exact g_iret h hQ dX11_ticksTillTold_29 (congrArg (fun z => some (Value.int z)) (show (oI (stO μ g)) = (nI n) by rw [hS]; rfl)) (by exact ⟨(by rw [hK, hT]; exact hvσ_2), (by exact hcFR_σ_2)⟩)
  exact lp11 (_) 0 μ 0 (nI 0) nt g σ_1 (by rfl) (by omega) (by intro x hx; omega) (by exact h7) (by omega) (by first | exact hvσ_1 | assumption | fail | fail) (by first | exact hcLC_σ_1 | assumption | fail | fail) (by first | exact hcFR_σ_1 | assumption | fail | fail) (by first | exact hcCL_σ_1 | assumption | fail | fail) (Nat.lt_succ_self _)
