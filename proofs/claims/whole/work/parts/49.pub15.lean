/-! picks; who goes astray -/
def pkn (μ : Nat → Int32) (i : Nat) : Nat := match fs (fun m => (pkB μ i (pkS μ i m)).isNone) 8 with
  | none => 8
  | some n => n
def px (μ : Nat → Int32) (i m : Nat) : Nat := o0 (pkB μ i (pkS μ i m))
theorem pk_end {μ : Nat → Int32} {i ca la : Nat} {τ : Mem} (h : PK μ i τ ca la) : τ ca = nI (pkn μ i) ∧ pkn μ i ≤ 8 ∧ ∀ m, m < pkn μ i → τ (la + m) = nI (px μ i m) := by
  obtain ⟨n, hn, h1, h2, h3⟩ := h
  have hno : ∀ x, x < n → (pkB μ i (pkS μ i x)).isNone = false := fun x hx => by
    obtain ⟨y, hy, _⟩ := h3 x hx
    rw [hy]
    rfl
  have e : pkn μ i = n := by
    unfold pkn
    by_cases c : n < 8
    · rw [fs_here (n := n) hno (by rw [h2 c]; rfl) 8 c]
    · rw [fs_none (fun x hx => hno x (by omega))]
      show 8 = n
      omega
  rw [e]
  refine ⟨h1, hn, fun m hm => ?_⟩
  obtain ⟨y, hy, hy2⟩ := h3 m hm
  unfold px
  rw [hy]
  exact hy2
def sN (f : Nat → Nat) : Nat → Nat
  | 0 => 0
  | n + 1 => sN f n + f n
theorem sN_congr {f g : Nat → Nat} : ∀ {n : Nat}, (∀ x, x < n → f x = g x) → sN f n = sN g n
  | 0, _ => rfl
  | n + 1, h => by
    simp only [sN]
    rw [sN_congr (n := n) (fun x hx => h x (by omega)), h n (by omega)]
theorem sN_more {f : Nat → Nat} {m : Nat} : ∀ k, (∀ x, m ≤ x → x < m + k → f x = 0) → sN f (m + k) = sN f m
  | 0, _ => rfl
  | k + 1, h => by
    rw [← Nat.add_assoc]
    simp only [sN]
    rw [sN_more k (fun x h1 h2 => h x h1 (by omega)), h (m + k) (by omega) (by omega)]
    rfl
theorem sN_0 {f : Nat → Nat} {n : Nat} (h : ∀ x, x < n → f x = 0) : sN f n = 0 := by
  have := sN_more (f := f) (m := 0) n (fun x _ hx => h x (by omega))
  rw [Nat.zero_add] at this
  exact this
theorem sN_le {f : Nat → Nat} {c : Nat} (h : ∀ x, f x ≤ c) : ∀ n, sN f n ≤ c * n
  | 0 => Nat.zero_le _
  | n + 1 => by
    have := sN_le h n
    have := h n
    simp only [sN]
    rw [Nat.mul_succ]
    omega
/-- sixty-four cells, row by row -/
theorem sN_64 {f : Nat → Nat → Nat} : ∀ k, k ≤ 8 → sN (fun c => f (c / 8) (c % 8)) (8 * k) = sN (fun a => sN (f a) 8) k
  | 0, _ => rfl
  | k + 1, hk => by
    have ih := sN_64 (f := f) k (by omega)
    have row : ∀ j, j ≤ 8 → sN (fun c => f (c / 8) (c % 8)) (8 * k + j) = sN (fun c => f (c / 8) (c % 8)) (8 * k) + sN (f k) j := by
      intro j
      induction j with
      | zero => intro _; rfl
      | succ j ihj =>
        intro hj
        rw [← Nat.add_assoc]
        simp only [sN]
        rw [ihj (by omega), show (8 * k + j) / 8 = k from by omega, show (8 * k + j) % 8 = j from by omega]
        omega
    rw [show 8 * (k + 1) = 8 * k + 8 from by omega, row 8 (Nat.le_refl _), ih]
    rfl
def asB (μ : Nat → Int32) (wt a b : Nat) : Nat := if (!decide (a = b) && (tb (μ 1) a && tb (μ 1) b) && (if wt < 2 then decide ((gnw μ a b).1 = wt + 1) else decide ((gnw μ a b).1 = 0) && (decide (far μ a b = 0) || decide (far μ a b < (gnw μ a b).2.1 - 1)))) = true then 1 else 0
theorem if1 (c : Prop) [Decidable c] : (if c then 1 else 0) ≤ 1 := by
  split <;> decide
theorem asB_le {μ : Nat → Int32} {wt a b : Nat} : asB μ wt a b ≤ 1 := if1 _
def v_ast (μ : Nat → Int32) (wt : Nat) : Nat := sN (fun a => sN (asB μ wt a) (nN μ)) (nN μ)
theorem ast_64 {μ : Nat → Int32} {wt : Nat} (hI : MI μ) : sN (fun c => asB μ wt (c / 8) (c % 8)) 64 = v_ast μ wt := by
  have h8 := mi_8 hI
  have z : ∀ a b, (nN μ ≤ a ∨ nN μ ≤ b) → asB μ wt a b = 0 := fun a b h => by
    unfold asB
    rcases h with h | h
    · rw [ms_on hI a h]; simp
    · rw [ms_on hI b h]; simp
  have := sN_64 (f := asB μ wt) 8 (Nat.le_refl _)
  rw [show 64 = 8 * 8 from rfl, this]
  unfold v_ast
  have e1 : ∀ a, sN (asB μ wt a) 8 = sN (asB μ wt a) (nN μ) := fun a => by
    have := sN_more (f := asB μ wt a) (m := nN μ) (8 - nN μ) (fun x h1 _ => z a x (Or.inr h1))
    rwa [show nN μ + (8 - nN μ) = 8 from by omega] at this
  have := sN_more (f := fun a => sN (asB μ wt a) (nN μ)) (m := nN μ) (8 - nN μ) (fun x h1 _ => sN_0 (fun y _ => z x y (Or.inl h1)))
  rw [show nN μ + (8 - nN μ) = 8 from by omega] at this
  rw [sN_congr (fun a _ => e1 a), this]

set_option maxRecDepth 100000 in
set_option maxHeartbeats 4000000 in
theorem q_pick {l : Launch} {w : Wd} (hW : Wi w) {σ : Mem} (i : Int32) (z : Int32)  (μ : Nat → Int32) (hv : vw 0 σ = μ) (hI : MI μ) : MC l w qX12_pick 5 [.ref (w.1 0), .int i, .int z] σ (some (.int (an (fo (fo (ng z) (ns μ i)) (if pkn μ (toN i) ≤ toN z then 7 else 0)) (nI (px μ (toN i) (toN z)))))) (fun σ' => (σ' 4000 = (nI (fo (fo (ng z) (ns μ i)) (if pkn μ (toN i) ≤ toN z then 7 else 0)))) ∧ (∀ a, ((a < 4900 ∨ 6000 ≤ a) ∧ a ≠ 4000) → σ' a = σ a)) := by
  refine MC.of hW (by decide +kernel) (Nat.le_of_ble_eq_true rfl) (fun X h hQ hnm => ?_)
  have h : Fx X w cX12_pick 3 RX12 5 := h
  have hQ : Qx X w (some .int) (some (.int (an (fo (fo (ng z) (ns μ i)) (if pkn μ (toN i) ≤ toN z then 7 else 0)) (nI (px μ (toN i) (toN z)))))) (fun σ' => (σ' 4000 = (nI (fo (fo (ng z) (ns μ i)) (if pkn μ (toN i) ≤ toN z then 7 else 0)))) ∧ (∀ a, ((a < 4900 ∨ 6000 ≤ a) ∧ a ≠ 4000) → σ' a = σ a)) := hQ
  have hN8 := mi_8 hI
  have hcFR_σ : ∀ a, ((a < 4900 ∨ 6000 ≤ a) ∧ a ≠ 4000) → σ a = σ a := fun _ _ => rfl
  show G X w 3 0 [(0, .ref (w.1 0)), (1, .int i), (2, .int z)] [] σ
  refine g_iload_n h dX12_pick_0 2 rfl ?_
  refine g_if_ge h dX12_pick_1 (fun c1 => ?_) (fun c1 => ?_)
  ·
    refine g_aload_n h dX12_pick_10 0 rfl ?_
    refine g_iload_n h dX12_pick_11 1 rfl ?_
    refine g_cvpi (rest := []) h (r_isNode hW i μ (by first | exact hv | assumption | fail)) lX12_isNode mX12_287 (Nat.lt_of_lt_of_le (by decide) (Nat.le_refl _)) (by decide) sc_0 rfl rfl rfl rfl dX12_pick_12 ?_
    refine g_ifB_ne h dX12_pick_15 (fun c15 => ?_) (fun c15 => ?_)
    ·
      have hnB : nB μ i = true := c15
      obtain ⟨ei, hi9⟩ := nB_N hI hnB
      have hA : fo (ng z) (ns μ i) = 0 := by rw [fo_r (ng_0 (Int32.not_lt.mpr c1))]; unfold ns; rw [if_pos hnB]
      have ez := i32_N c1
      have hz9 := toN_lt z
      rw [ei, ez]
      show G X w 3 24 [(0, .ref (w.1 0)), (1, .int (nI (toN i))), (2, .int (nI (toN z)))] [] σ
      refine g_aload_n h dX12_pick_24 0 rfl ?_
      refine g_iload_n h dX12_pick_25 1 rfl ?_
      refine g_cvi (rest := []) h (r_chosen hW (toN i) μ (by first | exact hv | assumption | fail) (by assumption) (by omega)) lX12_chosen mX12_166 (Nat.lt_of_lt_of_le (by decide) (Nat.le_refl _)) (by decide) sc_0 rfl rfl rfl rfl dX12_pick_26 (fun σc eσc => ?_)
      obtain ⟨eσc_a, eσc_b⟩ := eσc
      have eσc_a : PK μ (toN i) σc 5012 5100 := eσc_a
      have eσc_b : ∀ a, (a ≠ 5012 ∧ (a < 5100 ∨ 5108 ≤ a)) → σc a = σ a := eσc_b
      have hcFR_σc : ∀ a, ((a < 4900 ∨ 6000 ≤ a) ∧ a ≠ 4000) → σc a = σ a := by intro a ha; exact Eq.trans (b := σ a) (eσc_b a (by first | omega | (simp only [vb] at *; omega))) (hcFR_σ a ha)
      have hvσc : vw 0 σc = μ := by rw [vw_fr (σ := σ) (fun j _ _ => eσc_b _ (by first | omega | (simp only [vb] at *; omega)))]; first | exact hv | assumption
      have hpk := pk_end eσc_a
      have hpk8 := hpk.2.1
      refine g_pop h dX12_pick_29 rfl ?_
      refine g_iload_n h dX12_pick_30 2 rfl ?_
      refine g_aload_n h dX12_pick_31 0 rfl ?_
      refine g_geti h dX12_pick_32 gX12_89 sc_0 rfl ?_
      refine g_top (y := (nI (pkn μ (toN i)))) hpk.1 ?_
      refine g_icmpN_ge h dX12_pick_35 (by omega) (by omega) (fun c35 => ?_) (fun c35 => ?_)
      ·
        refine g_aload_n h dX12_pick_51 0 rfl ?_
        refine g_bipush h dX12_pick_52 (by decide) ?_
        refine g_cvi (rest := []) h (r_refuse hW (nI 7) ) lX12_refuse mX12_272 (Nat.lt_of_lt_of_le (by decide) (Nat.le_refl _)) (by decide) sc_0 rfl rfl rfl rfl dX12_pick_54 (fun σ_1 eσ_1 => ?_)
        have eσ_1_a : σ_1 = upd σc 4000 (nI 7) := eσ_1
        have ht4000_σ_1 : σ_1 4000 = (nI 7) := by rw [eσ_1_a]; exact upd_eq
        have hcFR_σ_1 : ∀ a, ((a < 4900 ∨ 6000 ≤ a) ∧ a ≠ 4000) → σ_1 a = σ a := by intro a ha; exact Eq.trans (b := σc a) (by rw [eσ_1_a, upd_ne (by first | omega | (simp only [vb] at *; omega))]) (hcFR_σc a ha)
        have hvσ_1 : vw 0 σ_1 = μ := by rw [eσ_1_a, vw_out (by omega)]; first | exact hvσc | assumption
        exact g_iret h hQ dX12_pick_57 (congrArg (fun z => some (Value.int z)) (show (an (fo (fo (ng z) (ns μ i)) (if pkn μ (toN i) ≤ toN z then 7 else 0)) (nI (px μ (toN i) (toN z)))) = (-1) by first | exact an_yes (by first | exact (fo_r hA).trans (if_pos (by omega)) | exact (fo_r hA).trans (if_neg (by omega)) | (rw [fo_l (by rw [fo_l (by rw [ng_1 (Int32.not_le.mp c1)]; decide), ng_1 (Int32.not_le.mp c1)]; decide), fo_l (by rw [ng_1 (Int32.not_le.mp c1)]; decide), ng_1 (Int32.not_le.mp c1)]; done) | (rw [fo_l (by rw [fo_r (ng_0 (Int32.not_lt.mpr c1))]; simp [ns, nB, c15]), fo_r (ng_0 (Int32.not_lt.mpr c1))]; simp [ns, nB, c15]; done) | fail) (by rfl) | exact an_no (k := 7) (by first | exact (fo_r hA).trans (if_pos (by omega)) | exact (fo_r hA).trans (if_neg (by omega)) | (rw [fo_l (by rw [fo_l (by rw [ng_1 (Int32.not_le.mp c1)]; decide), ng_1 (Int32.not_le.mp c1)]; decide), fo_l (by rw [ng_1 (Int32.not_le.mp c1)]; decide), ng_1 (Int32.not_le.mp c1)]; done) | (rw [fo_l (by rw [fo_r (ng_0 (Int32.not_lt.mpr c1))]; simp [ns, nB, c15]), fo_r (ng_0 (Int32.not_lt.mpr c1))]; simp [ns, nB, c15]; done) | fail) (by first | decide | omega | assumption | exact nb1 (by assumption)) | fail)) (by exact ⟨(by first | exact tk_eq (k := 7) (by first | exact (fo_r hA).trans (if_pos (by omega)) | exact (fo_r hA).trans (if_neg (by omega)) | (rw [fo_l (by rw [fo_l (by rw [ng_1 (Int32.not_le.mp c1)]; decide), ng_1 (Int32.not_le.mp c1)]; decide), fo_l (by rw [ng_1 (Int32.not_le.mp c1)]; decide), ng_1 (Int32.not_le.mp c1)]; done) | (rw [fo_l (by rw [fo_r (ng_0 (Int32.not_lt.mpr c1))]; simp [ns, nB, c15]), fo_r (ng_0 (Int32.not_lt.mpr c1))]; simp [ns, nB, c15]; done) | fail) ht4000_σ_1 | exact tk_eq (k := 7) (by first | exact (fo_r hA).trans (if_pos (by omega)) | exact (fo_r hA).trans (if_neg (by omega)) | (rw [fo_l (by rw [fo_l (by rw [ng_1 (Int32.not_le.mp c1)]; decide), ng_1 (Int32.not_le.mp c1)]; decide), fo_l (by rw [ng_1 (Int32.not_le.mp c1)]; decide), ng_1 (Int32.not_le.mp c1)]; done) | (rw [fo_l (by rw [fo_r (ng_0 (Int32.not_lt.mpr c1))]; simp [ns, nB, c15]), fo_r (ng_0 (Int32.not_lt.mpr c1))]; simp [ns, nB, c15]; done) | fail) ht4000_σ_1 | fail), (by exact hcFR_σ_1)⟩)
      ·
        refine g_aload_n h dX12_pick_38 0 rfl ?_
        refine g_aload_n h dX12_pick_39 0 rfl ?_
        refine g_getr h dX12_pick_40 gX12_13 sc_0 rfl ?_
        refine g_iload_n h dX12_pick_43 2 rfl ?_
        refine g_iald h dX12_pick_44 sc_2 (by omega) ?_
        refine g_top (y := (nI (px μ (toN i) (toN z)))) (hpk.2.2 (toN z) (by omega)) ?_
        refine g_cvi (rest := []) h (r_gives hW (nI (px μ (toN i) (toN z))) ) lX12_gives mX12_281 (Nat.lt_of_lt_of_le (by decide) (Nat.le_refl _)) (by decide) sc_0 rfl rfl rfl rfl dX12_pick_45 (fun σ_2 eσ_2 => ?_)
        have eσ_2_a : σ_2 = upd σc 4000 (nI 0) := eσ_2
        have ht4000_σ_2 : σ_2 4000 = (nI 0) := by rw [eσ_2_a]; exact upd_eq
        have hcFR_σ_2 : ∀ a, ((a < 4900 ∨ 6000 ≤ a) ∧ a ≠ 4000) → σ_2 a = σ a := by intro a ha; exact Eq.trans (b := σc a) (by rw [eσ_2_a, upd_ne (by first | omega | (simp only [vb] at *; omega))]) (hcFR_σc a ha)
        have hvσ_2 : vw 0 σ_2 = μ := by rw [eσ_2_a, vw_out (by omega)]; first | exact hvσc | assumption
        refine g_goto h dX12_pick_48 ?_
        exact g_iret h hQ dX12_pick_57 (congrArg (fun z => some (Value.int z)) (show (an (fo (fo (ng z) (ns μ i)) (if pkn μ (toN i) ≤ toN z then 7 else 0)) (nI (px μ (toN i) (toN z)))) = (nI (px μ (toN i) (toN z))) by first | exact an_yes (by first | exact (fo_r hA).trans (if_pos (by omega)) | exact (fo_r hA).trans (if_neg (by omega)) | (rw [fo_l (by rw [fo_l (by rw [ng_1 (Int32.not_le.mp c1)]; decide), ng_1 (Int32.not_le.mp c1)]; decide), fo_l (by rw [ng_1 (Int32.not_le.mp c1)]; decide), ng_1 (Int32.not_le.mp c1)]; done) | (rw [fo_l (by rw [fo_r (ng_0 (Int32.not_lt.mpr c1))]; simp [ns, nB, c15]), fo_r (ng_0 (Int32.not_lt.mpr c1))]; simp [ns, nB, c15]; done) | fail) (by rfl) | exact an_no (k := 0) (by first | exact (fo_r hA).trans (if_pos (by omega)) | exact (fo_r hA).trans (if_neg (by omega)) | (rw [fo_l (by rw [fo_l (by rw [ng_1 (Int32.not_le.mp c1)]; decide), ng_1 (Int32.not_le.mp c1)]; decide), fo_l (by rw [ng_1 (Int32.not_le.mp c1)]; decide), ng_1 (Int32.not_le.mp c1)]; done) | (rw [fo_l (by rw [fo_r (ng_0 (Int32.not_lt.mpr c1))]; simp [ns, nB, c15]), fo_r (ng_0 (Int32.not_lt.mpr c1))]; simp [ns, nB, c15]; done) | fail) (by first | decide | omega | assumption | exact nb1 (by assumption)) | fail)) (by exact ⟨(by first | exact tk_eq (k := 0) (by first | exact (fo_r hA).trans (if_pos (by omega)) | exact (fo_r hA).trans (if_neg (by omega)) | (rw [fo_l (by rw [fo_l (by rw [ng_1 (Int32.not_le.mp c1)]; decide), ng_1 (Int32.not_le.mp c1)]; decide), fo_l (by rw [ng_1 (Int32.not_le.mp c1)]; decide), ng_1 (Int32.not_le.mp c1)]; done) | (rw [fo_l (by rw [fo_r (ng_0 (Int32.not_lt.mpr c1))]; simp [ns, nB, c15]), fo_r (ng_0 (Int32.not_lt.mpr c1))]; simp [ns, nB, c15]; done) | fail) ht4000_σ_2 | exact tk_eq (k := 0) (by first | exact (fo_r hA).trans (if_pos (by omega)) | exact (fo_r hA).trans (if_neg (by omega)) | (rw [fo_l (by rw [fo_l (by rw [ng_1 (Int32.not_le.mp c1)]; decide), ng_1 (Int32.not_le.mp c1)]; decide), fo_l (by rw [ng_1 (Int32.not_le.mp c1)]; decide), ng_1 (Int32.not_le.mp c1)]; done) | (rw [fo_l (by rw [fo_r (ng_0 (Int32.not_lt.mpr c1))]; simp [ns, nB, c15]), fo_r (ng_0 (Int32.not_lt.mpr c1))]; simp [ns, nB, c15]; done) | fail) ht4000_σ_2 | fail), (by exact hcFR_σ_2)⟩)
    ·
      refine g_aload_n h dX12_pick_18 0 rfl ?_
      refine g_iconst h dX12_pick_19 (by decide) ?_
      refine g_cvi (rest := []) h (r_refuse hW (nI 2) ) lX12_refuse mX12_272 (Nat.lt_of_lt_of_le (by decide) (Nat.le_refl _)) (by decide) sc_0 rfl rfl rfl rfl dX12_pick_20 (fun σ_3 eσ_3 => ?_)
      have eσ_3_a : σ_3 = upd σ 4000 (nI 2) := eσ_3
      have ht4000_σ_3 : σ_3 4000 = (nI 2) := by rw [eσ_3_a]; exact upd_eq
      have hcFR_σ_3 : ∀ a, ((a < 4900 ∨ 6000 ≤ a) ∧ a ≠ 4000) → σ_3 a = σ a := by intro a ha; exact Eq.trans (b := σ a) (by rw [eσ_3_a, upd_ne (by first | omega | (simp only [vb] at *; omega))]) (hcFR_σ a ha)
      have hvσ_3 : vw 0 σ_3 = μ := by rw [eσ_3_a, vw_out (by omega)]; first | exact hv | assumption
      exact g_iret h hQ dX12_pick_23 (congrArg (fun z => some (Value.int z)) (show (an (fo (fo (ng z) (ns μ i)) (if pkn μ (toN i) ≤ toN z then 7 else 0)) (nI (px μ (toN i) (toN z)))) = (-1) by first | exact an_yes (by first | exact (fo_r hA).trans (if_pos (by omega)) | exact (fo_r hA).trans (if_neg (by omega)) | (rw [fo_l (by rw [fo_l (by rw [ng_1 (Int32.not_le.mp c1)]; decide), ng_1 (Int32.not_le.mp c1)]; decide), fo_l (by rw [ng_1 (Int32.not_le.mp c1)]; decide), ng_1 (Int32.not_le.mp c1)]; done) | (rw [fo_l (by rw [fo_r (ng_0 (Int32.not_lt.mpr c1))]; simp [ns, nB, c15]), fo_r (ng_0 (Int32.not_lt.mpr c1))]; simp [ns, nB, c15]; done) | fail) (by rfl) | exact an_no (k := 2) (by first | exact (fo_r hA).trans (if_pos (by omega)) | exact (fo_r hA).trans (if_neg (by omega)) | (rw [fo_l (by rw [fo_l (by rw [ng_1 (Int32.not_le.mp c1)]; decide), ng_1 (Int32.not_le.mp c1)]; decide), fo_l (by rw [ng_1 (Int32.not_le.mp c1)]; decide), ng_1 (Int32.not_le.mp c1)]; done) | (rw [fo_l (by rw [fo_r (ng_0 (Int32.not_lt.mpr c1))]; simp [ns, nB, c15]), fo_r (ng_0 (Int32.not_lt.mpr c1))]; simp [ns, nB, c15]; done) | fail) (by first | decide | omega | assumption | exact nb1 (by assumption)) | fail)) (by exact ⟨(by first | exact tk_eq (k := 2) (by first | exact (fo_r hA).trans (if_pos (by omega)) | exact (fo_r hA).trans (if_neg (by omega)) | (rw [fo_l (by rw [fo_l (by rw [ng_1 (Int32.not_le.mp c1)]; decide), ng_1 (Int32.not_le.mp c1)]; decide), fo_l (by rw [ng_1 (Int32.not_le.mp c1)]; decide), ng_1 (Int32.not_le.mp c1)]; done) | (rw [fo_l (by rw [fo_r (ng_0 (Int32.not_lt.mpr c1))]; simp [ns, nB, c15]), fo_r (ng_0 (Int32.not_lt.mpr c1))]; simp [ns, nB, c15]; done) | fail) ht4000_σ_3 | exact tk_eq (k := 2) (by first | exact (fo_r hA).trans (if_pos (by omega)) | exact (fo_r hA).trans (if_neg (by omega)) | (rw [fo_l (by rw [fo_l (by rw [ng_1 (Int32.not_le.mp c1)]; decide), ng_1 (Int32.not_le.mp c1)]; decide), fo_l (by rw [ng_1 (Int32.not_le.mp c1)]; decide), ng_1 (Int32.not_le.mp c1)]; done) | (rw [fo_l (by rw [fo_r (ng_0 (Int32.not_lt.mpr c1))]; simp [ns, nB, c15]), fo_r (ng_0 (Int32.not_lt.mpr c1))]; simp [ns, nB, c15]; done) | fail) ht4000_σ_3 | fail), (by exact hcFR_σ_3)⟩)
  ·
    refine g_aload_n h dX12_pick_4 0 rfl ?_
    refine g_iconst h dX12_pick_5 (by decide) ?_
    refine g_cvi (rest := []) h (r_refuse hW (nI 1) ) lX12_refuse mX12_272 (Nat.lt_of_lt_of_le (by decide) (Nat.le_refl _)) (by decide) sc_0 rfl rfl rfl rfl dX12_pick_6 (fun σ_4 eσ_4 => ?_)
    have eσ_4_a : σ_4 = upd σ 4000 (nI 1) := eσ_4
    have ht4000_σ_4 : σ_4 4000 = (nI 1) := by rw [eσ_4_a]; exact upd_eq
    have hcFR_σ_4 : ∀ a, ((a < 4900 ∨ 6000 ≤ a) ∧ a ≠ 4000) → σ_4 a = σ a := by intro a ha; exact Eq.trans (b := σ a) (by rw [eσ_4_a, upd_ne (by first | omega | (simp only [vb] at *; omega))]) (hcFR_σ a ha)
    have hvσ_4 : vw 0 σ_4 = μ := by rw [eσ_4_a, vw_out (by omega)]; first | exact hv | assumption
    exact g_iret h hQ dX12_pick_9 (congrArg (fun z => some (Value.int z)) (show (an (fo (fo (ng z) (ns μ i)) (if pkn μ (toN i) ≤ toN z then 7 else 0)) (nI (px μ (toN i) (toN z)))) = (-1) by first | exact an_yes (by first | exact (fo_r hA).trans (if_pos (by omega)) | exact (fo_r hA).trans (if_neg (by omega)) | (rw [fo_l (by rw [fo_l (by rw [ng_1 (Int32.not_le.mp c1)]; decide), ng_1 (Int32.not_le.mp c1)]; decide), fo_l (by rw [ng_1 (Int32.not_le.mp c1)]; decide), ng_1 (Int32.not_le.mp c1)]; done) | (rw [fo_l (by rw [fo_r (ng_0 (Int32.not_lt.mpr c1))]; simp [ns, nB, c15]), fo_r (ng_0 (Int32.not_lt.mpr c1))]; simp [ns, nB, c15]; done) | fail) (by rfl) | exact an_no (k := 1) (by first | exact (fo_r hA).trans (if_pos (by omega)) | exact (fo_r hA).trans (if_neg (by omega)) | (rw [fo_l (by rw [fo_l (by rw [ng_1 (Int32.not_le.mp c1)]; decide), ng_1 (Int32.not_le.mp c1)]; decide), fo_l (by rw [ng_1 (Int32.not_le.mp c1)]; decide), ng_1 (Int32.not_le.mp c1)]; done) | (rw [fo_l (by rw [fo_r (ng_0 (Int32.not_lt.mpr c1))]; simp [ns, nB, c15]), fo_r (ng_0 (Int32.not_lt.mpr c1))]; simp [ns, nB, c15]; done) | fail) (by first | decide | omega | assumption | exact nb1 (by assumption)) | fail)) (by exact ⟨(by first | exact tk_eq (k := 1) (by first | exact (fo_r hA).trans (if_pos (by omega)) | exact (fo_r hA).trans (if_neg (by omega)) | (rw [fo_l (by rw [fo_l (by rw [ng_1 (Int32.not_le.mp c1)]; decide), ng_1 (Int32.not_le.mp c1)]; decide), fo_l (by rw [ng_1 (Int32.not_le.mp c1)]; decide), ng_1 (Int32.not_le.mp c1)]; done) | (rw [fo_l (by rw [fo_r (ng_0 (Int32.not_lt.mpr c1))]; simp [ns, nB, c15]), fo_r (ng_0 (Int32.not_lt.mpr c1))]; simp [ns, nB, c15]; done) | fail) ht4000_σ_4 | exact tk_eq (k := 1) (by first | exact (fo_r hA).trans (if_pos (by omega)) | exact (fo_r hA).trans (if_neg (by omega)) | (rw [fo_l (by rw [fo_l (by rw [ng_1 (Int32.not_le.mp c1)]; decide), ng_1 (Int32.not_le.mp c1)]; decide), fo_l (by rw [ng_1 (Int32.not_le.mp c1)]; decide), ng_1 (Int32.not_le.mp c1)]; done) | (rw [fo_l (by rw [fo_r (ng_0 (Int32.not_lt.mpr c1))]; simp [ns, nB, c15]), fo_r (ng_0 (Int32.not_lt.mpr c1))]; simp [ns, nB, c15]; done) | fail) ht4000_σ_4 | fail), (by exact hcFR_σ_4)⟩)

set_option maxRecDepth 100000 in
set_option maxHeartbeats 4000000 in
theorem p_pick {l : Launch} {w : Wd} (hW : Wi w) {σ : Mem} (i : Int32) (z : Int32)  (μ : Nat → Int32) (hv : vw (vb 0) σ = μ) (hI : MI μ) : MC l w qX11_pick 4 [.ref (w.1 12), .int i, .int z] σ (some (.int (an (fo (fo (ng z) (ns μ i)) (if pkn μ (toN i) ≤ toN z then 7 else 0)) (nI (px μ (toN i) (toN z)))))) (fun σ' => (σ' 14000 = (nI (fo (fo (ng z) (ns μ i)) (if pkn μ (toN i) ≤ toN z then 7 else 0)))) ∧ (∀ a, ((a < 14900 ∧ a ≠ 14000)) → σ' a = σ a)) := by
  refine MC.of hW (by decide +kernel) (Nat.le_of_ble_eq_true rfl) (fun X h hQ hnm => ?_)
  have h : Fx X w cX11_pick 3 RX11 4 := h
  have hQ : Qx X w (some .int) (some (.int (an (fo (fo (ng z) (ns μ i)) (if pkn μ (toN i) ≤ toN z then 7 else 0)) (nI (px μ (toN i) (toN z)))))) (fun σ' => (σ' 14000 = (nI (fo (fo (ng z) (ns μ i)) (if pkn μ (toN i) ≤ toN z then 7 else 0)))) ∧ (∀ a, ((a < 14900 ∧ a ≠ 14000)) → σ' a = σ a)) := hQ
  have hN8 := mi_8 hI
  have hcFR_σ : ∀ a, ((a < 14900 ∧ a ≠ 14000)) → σ a = σ a := fun _ _ => rfl
  show G X w 3 0 [(0, .ref (w.1 12)), (1, .int i), (2, .int z)] [] σ
  have J10 : ∀ (nz : Nat), (nz = ng z) → G X w 3 10 [(0, .ref (w.1 12)), (1, .int i), (2, .int z)] [.int (nI nz), .ref (w.1 12)] σ := by
    intro nz hnz
    have hnl : nz < 100 := by rw [hnz]; exact ng_lt
    refine g_aload_n h dX11_pick_10 0 rfl ?_
    refine g_iload_n h dX11_pick_11 1 rfl ?_
    refine g_cvpi (rest := [.int (nI nz), .ref (w.1 12)]) h (c_ns hW i μ (by first | exact hv | assumption | fail)) lX11_nodeStatus mX11_159 (Nat.lt_of_lt_of_le (by decide) (Nat.le_refl _)) (by decide) sc_12 rfl rfl rfl rfl dX11_pick_12 ?_
    refine g_cspi (rest := [.ref (w.1 12)]) h (c_fo hW nz (ns μ i) (by repeat (first | omega | exact rg_lt | exact ns_lt | exact ps_lt | exact gst_lt | exact ofS_lt | exact if_lt (by decide) (by decide) | apply fo_lt)) (by repeat (first | omega | exact rg_lt | exact ns_lt | exact ps_lt | exact gst_lt | exact ofS_lt | exact if_lt (by decide) (by decide) | apply fo_lt))) lX11_firstOf mX11_163 (Nat.lt_of_lt_of_le (by decide) (Nat.le_refl _)) (by decide) rfl rfl rfl dX11_pick_15 ?_
    refine g_cvi (rest := []) h (c_fails hW (fo nz (ns μ i)) (by repeat (first | omega | exact rg_lt | exact ns_lt | exact ps_lt | exact gst_lt | exact ofS_lt | exact if_lt (by decide) (by decide) | apply fo_lt))) lX11_fails mX11_106 (Nat.lt_of_lt_of_le (by decide) (Nat.le_refl _)) (by decide) sc_12 rfl rfl rfl rfl dX11_pick_18 (fun σ_1 eσ_1 => ?_)
    obtain ⟨eσ_1_a, eσ_1_b⟩ := eσ_1
    have eσ_1_a : σ_1 14000 = (nI (fo nz (ns μ i))) := eσ_1_a
    have eσ_1_b : ∀ a, (a ≠ 14000) → σ_1 a = σ a := eσ_1_b
    have ht14000_σ_1 : σ_1 14000 = (nI (fo nz (ns μ i))) := eσ_1_a
    have hcFR_σ_1 : ∀ a, ((a < 14900 ∧ a ≠ 14000)) → σ_1 a = σ a := by intro a ha; exact Eq.trans (b := σ a) (eσ_1_b a (by first | omega | (simp only [vb] at *; omega))) (hcFR_σ a ha)
    have hvσ_1 : vw (vb 0) σ_1 = μ := by rw [vw_fr (σ := σ) (fun j _ _ => eσ_1_b _ (by first | omega | (simp only [vb] at *; omega)))]; first | exact hv | assumption
    refine g_ifB_eq h dX11_pick_21 (fun c21 => ?_) (fun c21 => ?_)
    ·
      have hA := nb0 c21
      rw [hnz] at hA
      obtain ⟨hs1, hs2⟩ := fo_0 hA
      have hz0 : ¬ z < 0 := fun q9 => by rw [ng_1 q9] at hs1; cases hs1
      have ez := i32_N (Int32.not_lt.mp hz0)
      have hz9 := toN_lt z
      obtain ⟨ei, hi9⟩ := nB_N hI (ns_0 hs2)
      rw [ei, ez]
      show G X w 3 26 [(0, .ref (w.1 12)), (1, .int (nI (toN i))), (2, .int (nI (toN z)))] [] σ_1
      refine g_aload_n h dX11_pick_26 0 rfl ?_
      refine g_getr h dX11_pick_27 gX11_44 sc_12 rfl ?_
      refine g_aload_n h dX11_pick_30 0 rfl ?_
      refine g_getr h dX11_pick_31 gX11_23 sc_12 rfl ?_
      refine g_iload_n h dX11_pick_34 1 rfl ?_
      refine g_cvi (rest := []) h (c_chosen hW (toN i) 0 μ (by first | omega | decide | fail) (by first | exact hvσ_1 | assumption | fail) (by assumption) (by omega)) lX0_chosen mX11_237 (Nat.lt_of_lt_of_le (by decide) (Nat.le_refl _)) (by decide) sc_18 rfl rfl rfl rfl dX11_pick_35 (fun σc eσc => ?_)
      obtain ⟨eσc_a, eσc_b⟩ := eσc
      have eσc_a : PK μ (toN i) σc 15013 15100 := eσc_a
      have eσc_b : ∀ a, (a ≠ 15013 ∧ (a < 15100 ∨ 15108 ≤ a)) → σc a = σ_1 a := eσc_b
      have ht14000_σc : σc 14000 = (nI (fo nz (ns μ i))) := by rw [eσc_b _ (by first | omega | (simp only [vb] at *; omega))]; first | exact ht14000_σ_1 | assumption
      have hcFR_σc : ∀ a, ((a < 14900 ∧ a ≠ 14000)) → σc a = σ a := by intro a ha; exact Eq.trans (b := σ_1 a) (eσc_b a (by first | omega | (simp only [vb] at *; omega))) (hcFR_σ_1 a ha)
      have hvσc : vw (vb 0) σc = μ := by rw [vw_fr (σ := σ_1) (fun j _ _ => eσc_b _ (by first | omega | (simp only [vb] at *; omega)))]; first | exact hvσ_1 | assumption
      have hpk := pk_end eσc_a
      have hpk8 := hpk.2.1
      refine g_pop h dX11_pick_38 rfl ?_
      refine g_aload_n h dX11_pick_39 0 rfl ?_
      refine g_iload_n h dX11_pick_40 2 rfl ?_
      refine g_aload_n h dX11_pick_41 0 rfl ?_
      refine g_getr h dX11_pick_42 gX11_44 sc_12 rfl ?_
      refine g_geti h dX11_pick_45 gX11_240 sc_18 rfl ?_
      refine g_top (y := (nI (pkn μ (toN i)))) hpk.1 ?_
      refine g_icmpN_ge h dX11_pick_48 (by omega) (by omega) (fun c48 => ?_) (fun c48 => ?_)
      ·
        refine g_bipush h dX11_pick_57 (by decide) ?_
        refine g_goto h dX11_pick_59 ?_
        refine g_cvi (rest := []) h (c_fails hW 7 (by repeat (first | omega | exact rg_lt | exact ns_lt | exact ps_lt | exact gst_lt | exact ofS_lt | exact if_lt (by decide) (by decide) | apply fo_lt))) lX11_fails mX11_106 (Nat.lt_of_lt_of_le (by decide) (Nat.le_refl _)) (by decide) sc_12 rfl rfl rfl rfl dX11_pick_63 (fun σf eσf => ?_)
        obtain ⟨eσf_a, eσf_b⟩ := eσf
        have eσf_a : σf 14000 = (nI 7) := eσf_a
        have eσf_b : ∀ a, (a ≠ 14000) → σf a = σc a := eσf_b
        have ht14000_σf : σf 14000 = (nI 7) := eσf_a
        have hcFR_σf : ∀ a, ((a < 14900 ∧ a ≠ 14000)) → σf a = σ a := by intro a ha; exact Eq.trans (b := σc a) (eσf_b a (by first | omega | (simp only [vb] at *; omega))) (hcFR_σc a ha)
        have hvσf : vw (vb 0) σf = μ := by rw [vw_fr (σ := σc) (fun j _ _ => eσf_b _ (by first | omega | (simp only [vb] at *; omega)))]; first | exact hvσc | assumption
        refine g_top (y := nI 1) rfl ?_
        refine g_ifN_eq h dX11_pick_66 (by decide) (fun c66 => absurd c66 (by decide)) (fun c66 => ?_)
        refine g_iconstv h dX11_pick_69 (v := (-1)) (by decide) ?_
        exact g_iret h hQ dX11_pick_70 (congrArg (fun z => some (Value.int z)) (show (an (fo (fo (ng z) (ns μ i)) (if pkn μ (toN i) ≤ toN z then 7 else 0)) (nI (px μ (toN i) (toN z)))) = (-1) by first | exact an_yes (by first | exact (fo_r hA).trans (if_pos (by omega)) | exact (fo_r hA).trans (if_neg (by omega)) | (rw [← hnz]; exact fo_l (nb1 c21)) | fail) (by rfl) | exact an_no (k := 7) (by first | exact (fo_r hA).trans (if_pos (by omega)) | exact (fo_r hA).trans (if_neg (by omega)) | (rw [← hnz]; exact fo_l (nb1 c21)) | fail) (by first | decide | omega | assumption | exact nb1 (by assumption)) | fail)) (by exact ⟨(by first | exact tk_eq (k := 7) (by first | exact (fo_r hA).trans (if_pos (by omega)) | exact (fo_r hA).trans (if_neg (by omega)) | (rw [← hnz]; exact fo_l (nb1 c21)) | fail) ht14000_σf | exact tk_eq (k := 7) (by first | exact (fo_r hA).trans (if_pos (by omega)) | exact (fo_r hA).trans (if_neg (by omega)) | (rw [← hnz]; exact fo_l (nb1 c21)) | fail) ht14000_σf | fail), (by exact hcFR_σf)⟩)
      ·
        refine g_iload_n h dX11_pick_51 2 rfl ?_
        refine g_bipush h dX11_pick_52 (by decide) ?_
        refine g_icmpN_lt h dX11_pick_54 (by omega) (by omega) (fun c54 => ?_) (fun c54 => ?_)
        ·
          refine g_iconst h dX11_pick_62 (by decide) ?_
          refine g_cvi (rest := []) h (c_fails hW 0 (by repeat (first | omega | exact rg_lt | exact ns_lt | exact ps_lt | exact gst_lt | exact ofS_lt | exact if_lt (by decide) (by decide) | apply fo_lt))) lX11_fails mX11_106 (Nat.lt_of_lt_of_le (by decide) (Nat.le_refl _)) (by decide) sc_12 rfl rfl rfl rfl dX11_pick_63 (fun σf eσf => ?_)
          obtain ⟨eσf_a, eσf_b⟩ := eσf
          have eσf_a : σf 14000 = (nI 0) := eσf_a
          have eσf_b : ∀ a, (a ≠ 14000) → σf a = σc a := eσf_b
          have ht14000_σf : σf 14000 = (nI 0) := eσf_a
          have hcFR_σf : ∀ a, ((a < 14900 ∧ a ≠ 14000)) → σf a = σ a := by intro a ha; exact Eq.trans (b := σc a) (eσf_b a (by first | omega | (simp only [vb] at *; omega))) (hcFR_σc a ha)
          have hvσf : vw (vb 0) σf = μ := by rw [vw_fr (σ := σc) (fun j _ _ => eσf_b _ (by first | omega | (simp only [vb] at *; omega)))]; first | exact hvσc | assumption
          refine g_top (y := nI 0) rfl ?_
          refine g_ifN_eq h dX11_pick_66 (by decide) (fun c66 => ?_) (fun c66 => absurd c66 (by decide))
          refine g_aload_n h dX11_pick_71 0 rfl ?_
          refine g_getr h dX11_pick_72 gX11_44 sc_12 rfl ?_
          refine g_getr h dX11_pick_75 gX11_243 sc_18 rfl ?_
          refine g_iload_n h dX11_pick_78 2 rfl ?_
          refine g_iald h dX11_pick_79 sc_19 (by omega) ?_
          refine g_top (y := (nI (px μ (toN i) (toN z)))) (by first | exact hpk.2.2 (toN z) (by omega) | (rw [eσf_b _ (by omega)]; exact hpk.2.2 (toN z) (by omega))) ?_
          exact g_iret h hQ dX11_pick_80 (congrArg (fun z => some (Value.int z)) (show (an (fo (fo (ng z) (ns μ i)) (if pkn μ (toN i) ≤ toN z then 7 else 0)) (nI (px μ (toN i) (toN z)))) = (nI (px μ (toN i) (toN z))) by first | exact an_yes (by first | exact (fo_r hA).trans (if_pos (by omega)) | exact (fo_r hA).trans (if_neg (by omega)) | (rw [← hnz]; exact fo_l (nb1 c21)) | fail) (by rfl) | exact an_no (k := 0) (by first | exact (fo_r hA).trans (if_pos (by omega)) | exact (fo_r hA).trans (if_neg (by omega)) | (rw [← hnz]; exact fo_l (nb1 c21)) | fail) (by first | decide | omega | assumption | exact nb1 (by assumption)) | fail)) (by exact ⟨(by first | exact tk_eq (k := 0) (by first | exact (fo_r hA).trans (if_pos (by omega)) | exact (fo_r hA).trans (if_neg (by omega)) | (rw [← hnz]; exact fo_l (nb1 c21)) | fail) ht14000_σf | exact tk_eq (k := 0) (by first | exact (fo_r hA).trans (if_pos (by omega)) | exact (fo_r hA).trans (if_neg (by omega)) | (rw [← hnz]; exact fo_l (nb1 c21)) | fail) ht14000_σf | fail), (by exact hcFR_σf)⟩)
        ·
          refine g_bipush h dX11_pick_57 (by decide) ?_
          refine g_goto h dX11_pick_59 ?_
          refine g_cvi (rest := []) h (c_fails hW 7 (by repeat (first | omega | exact rg_lt | exact ns_lt | exact ps_lt | exact gst_lt | exact ofS_lt | exact if_lt (by decide) (by decide) | apply fo_lt))) lX11_fails mX11_106 (Nat.lt_of_lt_of_le (by decide) (Nat.le_refl _)) (by decide) sc_12 rfl rfl rfl rfl dX11_pick_63 (fun σf eσf => ?_)
          obtain ⟨eσf_a, eσf_b⟩ := eσf
          have eσf_a : σf 14000 = (nI 7) := eσf_a
          have eσf_b : ∀ a, (a ≠ 14000) → σf a = σc a := eσf_b
          have ht14000_σf : σf 14000 = (nI 7) := eσf_a
          have hcFR_σf : ∀ a, ((a < 14900 ∧ a ≠ 14000)) → σf a = σ a := by intro a ha; exact Eq.trans (b := σc a) (eσf_b a (by first | omega | (simp only [vb] at *; omega))) (hcFR_σc a ha)
          have hvσf : vw (vb 0) σf = μ := by rw [vw_fr (σ := σc) (fun j _ _ => eσf_b _ (by first | omega | (simp only [vb] at *; omega)))]; first | exact hvσc | assumption
          refine g_top (y := nI 1) rfl ?_
          refine g_ifN_eq h dX11_pick_66 (by decide) (fun c66 => absurd c66 (by decide)) (fun c66 => ?_)
          refine g_iconstv h dX11_pick_69 (v := (-1)) (by decide) ?_
          exact g_iret h hQ dX11_pick_70 (congrArg (fun z => some (Value.int z)) (show (an (fo (fo (ng z) (ns μ i)) (if pkn μ (toN i) ≤ toN z then 7 else 0)) (nI (px μ (toN i) (toN z)))) = (-1) by first | exact an_yes (by first | exact (fo_r hA).trans (if_pos (by omega)) | exact (fo_r hA).trans (if_neg (by omega)) | (rw [← hnz]; exact fo_l (nb1 c21)) | fail) (by rfl) | exact an_no (k := 7) (by first | exact (fo_r hA).trans (if_pos (by omega)) | exact (fo_r hA).trans (if_neg (by omega)) | (rw [← hnz]; exact fo_l (nb1 c21)) | fail) (by first | decide | omega | assumption | exact nb1 (by assumption)) | fail)) (by exact ⟨(by first | exact tk_eq (k := 7) (by first | exact (fo_r hA).trans (if_pos (by omega)) | exact (fo_r hA).trans (if_neg (by omega)) | (rw [← hnz]; exact fo_l (nb1 c21)) | fail) ht14000_σf | exact tk_eq (k := 7) (by first | exact (fo_r hA).trans (if_pos (by omega)) | exact (fo_r hA).trans (if_neg (by omega)) | (rw [← hnz]; exact fo_l (nb1 c21)) | fail) ht14000_σf | fail), (by exact hcFR_σf)⟩)
    ·
      refine g_iconstv h dX11_pick_24 (v := (-1)) (by decide) ?_
      exact g_iret h hQ dX11_pick_25 (congrArg (fun z => some (Value.int z)) (show (an (fo (fo (ng z) (ns μ i)) (if pkn μ (toN i) ≤ toN z then 7 else 0)) (nI (px μ (toN i) (toN z)))) = (-1) by first | exact an_yes (by first | exact (fo_r hA).trans (if_pos (by omega)) | exact (fo_r hA).trans (if_neg (by omega)) | (rw [← hnz]; exact fo_l (nb1 c21)) | fail) (by rfl) | exact an_no (k := (fo nz (ns μ i))) (by first | exact (fo_r hA).trans (if_pos (by omega)) | exact (fo_r hA).trans (if_neg (by omega)) | (rw [← hnz]; exact fo_l (nb1 c21)) | fail) (by first | decide | omega | assumption | exact nb1 (by assumption)) | fail)) (by exact ⟨(by first | exact tk_eq (k := (fo nz (ns μ i))) (by first | exact (fo_r hA).trans (if_pos (by omega)) | exact (fo_r hA).trans (if_neg (by omega)) | (rw [← hnz]; exact fo_l (nb1 c21)) | fail) ht14000_σ_1 | exact tk_eq (k := (fo nz (ns μ i))) (by first | exact (fo_r hA).trans (if_pos (by omega)) | exact (fo_r hA).trans (if_neg (by omega)) | (rw [← hnz]; exact fo_l (nb1 c21)) | fail) ht14000_σ_1 | fail), (by exact hcFR_σ_1)⟩)
  refine g_aload_n h dX11_pick_0 0 rfl ?_
  refine g_iload_n h dX11_pick_1 2 rfl ?_
  refine g_if_ge h dX11_pick_2 (fun c2 => ?_) (fun c2 => ?_)
  ·
    refine g_iconst h dX11_pick_9 (by decide) ?_
    exact J10 0 (by first | exact (ng_0 (Int32.not_lt.mpr c2)).symm | exact (ng_1 (Int32.not_le.mp c2)).symm | fail | fail)
  ·
    refine g_iconst h dX11_pick_5 (by decide) ?_
    refine g_goto h dX11_pick_6 ?_
    exact J10 1 (by first | exact (ng_0 (Int32.not_lt.mpr c2)).symm | exact (ng_1 (Int32.not_le.mp c2)).symm | fail | fail)

theorem as_1 {n n2 b : Nat} {f : Nat → Nat} (h : n2 = n + sN f b) (h1 : f b = 1) : n2 + 1 = n + sN f (b + 1) := by
  simp only [sN]
  omega
theorem as_0 {n n2 b : Nat} {f : Nat → Nat} (h : n2 = n + sN f b) (h1 : f b = 0) : n2 = n + sN f (b + 1) := by
  simp only [sN]
  omega

set_option maxRecDepth 100000 in
set_option maxHeartbeats 16000000 in
theorem q_astray {l : Launch} {w : Wd} (hW : Wi w) {σ : Mem} (wt : Int32)  (μ : Nat → Int32) (hv : vw 0 σ = μ) (hI : MI μ) : MC l w qX12_astray 6 [.ref (w.1 0), .int wt] σ (some (.int (an (rg wt (nI 0) (nI 2)) (nI (v_ast μ (toN wt)))))) (fun σ' => (σ' 4000 = (nI (rg wt (nI 0) (nI 2)))) ∧ (∀ a, ((a < 4900 ∨ 6000 ≤ a) ∧ a ≠ 4000) → σ' a = σ a)) := by
  refine MC.of hW (by decide +kernel) (Nat.le_of_ble_eq_true rfl) (fun X h hQ hnm => ?_)
  have h : Fx X w cX12_astray 7 RX12 6 := h
  have hQ : Qx X w (some .int) (some (.int (an (rg wt (nI 0) (nI 2)) (nI (v_ast μ (toN wt)))))) (fun σ' => (σ' 4000 = (nI (rg wt (nI 0) (nI 2)))) ∧ (∀ a, ((a < 4900 ∨ 6000 ≤ a) ∧ a ≠ 4000) → σ' a = σ a)) := hQ
  have hN8 := mi_8 hI
  have hcFR_σ : ∀ a, ((a < 4900 ∨ 6000 ≤ a) ∧ a ≠ 4000) → σ a = σ a := fun _ _ => rfl
  show G X w 7 0 [(0, .ref (w.1 0)), (1, .int wt)] [] σ
  refine g_iload_n h dX12_astray_0 1 rfl ?_
  refine g_iconst h dX12_astray_1 (by decide) ?_
  refine g_iconst h dX12_astray_2 (by decide) ?_
  refine g_cspi (rest := []) h (r_isFrom hW wt (nI 0) (nI 2) ) lX12_isFrom mX12_134 (Nat.lt_of_lt_of_le (by decide) (Nat.le_refl _)) (by decide) rfl rfl rfl dX12_astray_3 ?_
  refine g_ifB_ne h dX12_astray_6 (fun c6 => ?_) (fun c6 => ?_)
  ·
    obtain ⟨ew, hw9⟩ := fr_N (by decide) c6
    rw [ew]
    show G X w 7 15 [(0, .ref (w.1 0)), (1, .int (nI (toN wt)))] [] σ
    refine g_iconst h dX12_astray_15 (by decide) ?_
    refine g_istore_n (L' := [(0, .ref (w.1 0)), (1, .int (nI (toN wt))), (2, .int (nI 0))]) h dX12_astray_16 rfl (by decide) rfl ?_
    refine g_iconst h dX12_astray_17 (by decide) ?_
    refine g_istore_n (L' := [(0, .ref (w.1 0)), (1, .int (nI (toN wt))), (2, .int (nI 0)), (3, .int (nI 0))]) h dX12_astray_18 rfl (by decide) rfl ?_
    have lp19 : ∀ (k9 : Nat) (n : Nat) (a : Nat) (τ : Mem), (a ≤ nN μ) → (n = sN (fun a => sN (asB μ (toN wt) a) (nN μ)) a) → (vw 0 τ = μ) → (∀ a, ((a < 4900 ∨ 6000 ≤ a) ∧ a ≠ 4000) → τ a = σ a) → nN μ - a < k9 → G X w 7 19 [(0, .ref (w.1 0)), (1, .int (nI (toN wt))), (2, .int (nI n)), (3, .int (nI a))] [] (τ) := by
      intro k9
      induction k9 with
      | zero => intro n a τ ha hn hvτ hcFR_τ hm9; exact absurd hm9 (Nat.not_lt_zero _)
      | succ k9 ih19 =>
        intro n a τ ha hn hvτ hcFR_τ hm19
        refine g_iload_n h dX12_astray_19 3 rfl ?_
        refine g_aload_n h dX12_astray_20 0 rfl ?_
        refine g_iconst h dX12_astray_21 (by decide) ?_
        refine g_cvpi (rest := [.int (nI a)]) h (r_of hW 0 μ (by assumption) (by omega)) lX12_of mX12_61 (Nat.lt_of_lt_of_le (by decide) (Nat.le_refl _)) (by decide) sc_0 rfl rfl rfl rfl dX12_astray_22 ?_
        refine g_top (y := nI (nN μ)) (mi_0 (by assumption)) ?_
        refine g_icmpN_ge h dX12_astray_25 (by omega) (by omega) (fun c25 => ?_) (fun c25 => ?_)
        ·
          refine g_aload_n h dX12_astray_160 0 rfl ?_
          refine g_iload_n h dX12_astray_161 2 rfl ?_
          refine g_cvi (rest := []) h (r_gives hW (nI n) ) lX12_gives mX12_281 (Nat.lt_of_lt_of_le (by decide) (Nat.le_refl _)) (by decide) sc_0 rfl rfl rfl rfl dX12_astray_162 (fun σ_1 eσ_1 => ?_)
          have eσ_1_a : σ_1 = upd (τ) 4000 (nI 0) := eσ_1
          have ht4000_σ_1 : σ_1 4000 = (nI 0) := by rw [eσ_1_a]; exact upd_eq
          have hcFR_σ_1 : ∀ a, ((a < 4900 ∨ 6000 ≤ a) ∧ a ≠ 4000) → σ_1 a = σ a := by intro a ha; exact Eq.trans (b := (τ) a) (by rw [eσ_1_a, upd_ne (by first | omega | (simp only [vb] at *; omega))]) (hcFR_τ a ha)
          have hvσ_1 : vw 0 σ_1 = μ := by rw [eσ_1_a, vw_out (by omega)]; first | exact hvτ | assumption
          exact g_iret h hQ dX12_astray_165 (congrArg (fun z => some (Value.int z)) (show (an (rg wt (nI 0) (nI 2)) (nI (v_ast μ (toN wt)))) = (nI n) by first | exact an_yes (by first | rfl | (simp [fo, rg, ns, nB, ps, gst, ofS, offB, c6, c25]; done) | (simp [fo, rg, ns, nB, ps, gst, ofS, offB, c6, c25]; omega)) (by rw [hn, show a = nN μ from by omega]; rfl) | exact an_no (k := 0) (by first | rfl | (simp [fo, rg, ns, nB, ps, gst, ofS, offB, c6, c25]; done) | (simp [fo, rg, ns, nB, ps, gst, ofS, offB, c6, c25]; omega)) (by first | decide | omega | assumption | exact nb1 (by assumption)) | fail)) (by exact ⟨(by first | exact tk_eq (k := 0) (by first | rfl | (simp [fo, rg, ns, nB, ps, gst, ofS, offB, c6, c25]; done) | (simp [fo, rg, ns, nB, ps, gst, ofS, offB, c6, c25]; omega)) ht4000_σ_1 | exact tk_eq (k := 0) (by first | rfl | (simp [fo, rg, ns, nB, ps, gst, ofS, offB, c6, c25]; done) | (simp [fo, rg, ns, nB, ps, gst, ofS, offB, c6, c25]; omega)) ht4000_σ_1 | fail), (by exact hcFR_σ_1)⟩)
        ·
          refine g_iconst h dX12_astray_28 (by decide) ?_
          refine g_istore (L' := [(0, .ref (w.1 0)), (1, .int (nI (toN wt))), (2, .int (nI n)), (3, .int (nI a)), (4, .int (nI 0))]) h dX12_astray_29 rfl (by decide) rfl ?_
          have lp31 : ∀ (k9 : Nat) (n2 : Nat) (b : Nat) (τ2 : Mem), (b ≤ nN μ) → (n2 = n + sN (asB μ (toN wt) a) b) → (vw 0 τ2 = μ) → (∀ a, ((a < 4900 ∨ 6000 ≤ a) ∧ a ≠ 4000) → τ2 a = σ a) → nN μ - b < k9 → G X w 7 31 [(0, .ref (w.1 0)), (1, .int (nI (toN wt))), (2, .int (nI n2)), (3, .int (nI a)), (4, .int (nI b))] [] (τ2) := by
            intro k9
            induction k9 with
            | zero => intro n2 b τ2 hb hn2 hvτ2 hcFR_τ2 hm9; exact absurd hm9 (Nat.not_lt_zero _)
            | succ k9 ih31 =>
              intro n2 b τ2 hb hn2 hvτ2 hcFR_τ2 hm31
              refine g_iload h dX12_astray_31 4 rfl ?_
              refine g_aload_n h dX12_astray_33 0 rfl ?_
              refine g_iconst h dX12_astray_34 (by decide) ?_
              refine g_cvpi (rest := [.int (nI b)]) h (r_of hW 0 μ (by assumption) (by omega)) lX12_of mX12_61 (Nat.lt_of_lt_of_le (by decide) (Nat.le_refl _)) (by decide) sc_0 rfl rfl rfl rfl dX12_astray_35 ?_
              refine g_top (y := nI (nN μ)) (mi_0 (by assumption)) ?_
              refine g_icmpN_ge h dX12_astray_38 (by omega) (by omega) (fun c38 => ?_) (fun c38 => ?_)
              ·
                refine g_iincN (b := 1) (L' := [(0, .ref (w.1 0)), (1, .int (nI (toN wt))), (2, .int (nI n2)), (3, .int (nI (a + 1))), (4, .int (nI b))]) h dX12_astray_154 3 rfl rfl (by decide) (by decide) rfl ?_
                refine g_goto h dX12_astray_157 ?_
                exact g_sub [0, 1, 2, 3] rfl (ih19 n2 (a + 1) (τ2) (by omega) (by simp only [sN]; rw [hn2, hn, show b = nN μ from by omega]) (by first | exact hvτ2 | assumption | fail | fail) (by first | exact hcFR_τ2 | assumption | fail | fail) (by omega))
              ·
                refine g_iload_n h dX12_astray_41 3 rfl ?_
                refine g_iload h dX12_astray_42 4 rfl ?_
                refine g_icmpN_eq h dX12_astray_44 (by omega) (by omega) (fun c44 => ?_) (fun c44 => ?_)
                ·
                  refine g_iincN (b := 1) (L' := [(0, .ref (w.1 0)), (1, .int (nI (toN wt))), (2, .int (nI n2)), (3, .int (nI a)), (4, .int (nI (b + 1)))]) h dX12_astray_148 4 rfl rfl (by decide) (by decide) rfl ?_
                  refine g_goto h dX12_astray_151 ?_
                  exact ih31 n2 (b + 1) (τ2) (by omega) (by first | (exact as_1 hn2 (by first | (simp [asB, c6, c25, c38, c44]; done) | (simp [asB, c6, c25, c38, c44]; omega) | fail)) | (exact as_0 hn2 (by first | (simp [asB, c6, c25, c38, c44]; done) | (simp [asB, c6, c25, c38, c44]; omega) | fail)) | fail | fail) (by first | exact hvτ2 | assumption | fail | fail) (by first | exact hcFR_τ2 | assumption | fail | fail) (by omega)
                ·
                  refine g_aload_n h dX12_astray_47 0 rfl ?_
                  refine g_iload_n h dX12_astray_48 3 rfl ?_
                  refine g_cvpi (rest := []) h (r_isOn hW a μ (by assumption) (by omega)) lX12_isOn mX12_114 (Nat.lt_of_lt_of_le (by decide) (Nat.le_refl _)) (by decide) sc_0 rfl rfl rfl rfl dX12_astray_49 ?_
                  refine g_ifB_eq h dX12_astray_52 (fun c52 => ?_) (fun c52 => ?_)
                  ·
                    refine g_iincN (b := 1) (L' := [(0, .ref (w.1 0)), (1, .int (nI (toN wt))), (2, .int (nI n2)), (3, .int (nI a)), (4, .int (nI (b + 1)))]) h dX12_astray_148 4 rfl rfl (by decide) (by decide) rfl ?_
                    refine g_goto h dX12_astray_151 ?_
                    exact ih31 n2 (b + 1) (τ2) (by omega) (by first | (exact as_1 hn2 (by first | (simp [asB, c6, c25, c38, c44, c52]; done) | (simp [asB, c6, c25, c38, c44, c52]; omega) | fail)) | (exact as_0 hn2 (by first | (simp [asB, c6, c25, c38, c44, c52]; done) | (simp [asB, c6, c25, c38, c44, c52]; omega) | fail)) | fail | fail) (by first | exact hvτ2 | assumption | fail | fail) (by first | exact hcFR_τ2 | assumption | fail | fail) (by omega)
                  ·
                    refine g_aload_n h dX12_astray_55 0 rfl ?_
                    refine g_iload h dX12_astray_56 4 rfl ?_
                    refine g_cvpi (rest := []) h (r_isOn hW b μ (by assumption) (by omega)) lX12_isOn mX12_114 (Nat.lt_of_lt_of_le (by decide) (Nat.le_refl _)) (by decide) sc_0 rfl rfl rfl rfl dX12_astray_58 ?_
                    refine g_ifB_ne h dX12_astray_61 (fun c61 => ?_) (fun c61 => ?_)
                    ·
                      refine g_aload_n h dX12_astray_67 0 rfl ?_
                      refine g_iload_n h dX12_astray_68 3 rfl ?_
                      refine g_iload h dX12_astray_69 4 rfl ?_
                      refine g_cvi (rest := []) h (r_going hW a b μ (by first | exact hvτ2 | assumption | fail) (by assumption) (by omega) (by omega) (by omega)) lX12_going mX12_318 (Nat.lt_of_lt_of_le (by decide) (Nat.le_refl _)) (by decide) sc_0 rfl rfl rfl rfl dX12_astray_71 (fun σ_2 eσ_2 => ?_)
                      obtain ⟨eσ_2_a, eσ_2_b, eσ_2_c⟩ := eσ_2
                      have eσ_2_a : σ_2 5011 = (nI ((gnw μ a b).2.1)) := eσ_2_a
                      have eσ_2_b : GN 5170 σ_2 (gnw μ a b).2.1 (gnw μ a b).2.2.1 := eσ_2_b
                      have eσ_2_c : ∀ a, ((a < 5150 ∨ 5180 ≤ a) ∧ a ≠ 5011) → σ_2 a = (τ2) a := eσ_2_c
                      have ht5011_σ_2 : σ_2 5011 = (nI ((gnw μ a b).2.1)) := eσ_2_a
                      have hcFR_σ_2 : ∀ a, ((a < 4900 ∨ 6000 ≤ a) ∧ a ≠ 4000) → σ_2 a = σ a := by intro a ha; exact Eq.trans (b := (τ2) a) (eσ_2_c a (by first | omega | (simp only [vb] at *; omega))) (hcFR_τ2 a ha)
                      have hcGN_σ_2 : GN 5170 σ_2 (gnw μ a b).2.1 (gnw μ a b).2.2.1 := eσ_2_b
                      have hvσ_2 : vw 0 σ_2 = μ := by rw [vw_fr (σ := (τ2)) (fun j _ _ => eσ_2_c _ (by first | omega | (simp only [vb] at *; omega)))]; first | exact hvτ2 | assumption
                      have hgh := gnw_how (μ := μ) (fr := a) (to := b)
                      have hg1 := gnw_1 (μ := μ) (fr := a) (to := b)
                      have hg9 := gnw_le (μ := μ) (fr := a) (to := b)
                      have hfl := far_lt (μ := μ) (f := a) (t := b)
                      refine g_istore (L' := [(0, .ref (w.1 0)), (1, .int (nI (toN wt))), (2, .int (nI n2)), (3, .int (nI a)), (4, .int (nI b)), (5, .int (nI ((gnw μ a b).1)))]) h dX12_astray_74 rfl (by decide) rfl ?_
                      refine g_iload_n h dX12_astray_76 1 rfl ?_
                      refine g_iconst h dX12_astray_77 (by decide) ?_
                      refine g_icmpN_ge h dX12_astray_78 (by omega) (by omega) (fun c78 => ?_) (fun c78 => ?_)
                      ·
                        refine g_iload h dX12_astray_97 5 rfl ?_
                        refine g_ifN_ne h dX12_astray_99 (by omega) (fun c99 => ?_) (fun c99 => ?_)
                        ·
                          refine g_iconst h dX12_astray_132 (by decide) ?_
                          refine g_istore (L' := [(0, .ref (w.1 0)), (1, .int (nI (toN wt))), (2, .int (nI n2)), (3, .int (nI a)), (4, .int (nI b)), (5, .int (nI ((gnw μ a b).1))), (6, .int (nI 0))]) h dX12_astray_133 rfl (by decide) rfl ?_
                          refine g_iload_n h dX12_astray_135 2 rfl ?_
                          refine g_iload h dX12_astray_136 6 rfl ?_
                          refine g_ifN_eq h dX12_astray_138 (by decide) (fun c138 => ?_) (fun c138 => absurd c138 (by decide))
                          refine g_iconst h dX12_astray_145 (by decide) ?_
                          refine g_iaddN h dX12_astray_146  ?_
                          refine g_istore_n (L' := [(0, .ref (w.1 0)), (1, .int (nI (toN wt))), (2, .int (nI (n2 + 0))), (3, .int (nI a)), (4, .int (nI b)), (5, .int (nI ((gnw μ a b).1))), (6, .int (nI 0))]) h dX12_astray_147 rfl (by decide) rfl ?_
                          refine g_iincN (b := 1) (L' := [(0, .ref (w.1 0)), (1, .int (nI (toN wt))), (2, .int (nI (n2 + 0))), (3, .int (nI a)), (4, .int (nI (b + 1))), (5, .int (nI ((gnw μ a b).1))), (6, .int (nI 0))]) h dX12_astray_148 4 rfl rfl (by decide) (by decide) rfl ?_
                          refine g_goto h dX12_astray_151 ?_
                          exact g_sub [0, 1, 2, 3, 4] rfl (ih31 (n2 + 0) (b + 1) σ_2 (by omega) (by first | (exact as_1 hn2 (by first | (simp [asB, c6, c25, c38, c44, c52, c61, c78, c99]; done) | (simp [asB, c6, c25, c38, c44, c52, c61, c78, c99]; omega) | fail)) | (exact as_0 hn2 (by first | (simp [asB, c6, c25, c38, c44, c52, c61, c78, c99]; done) | (simp [asB, c6, c25, c38, c44, c52, c61, c78, c99]; omega) | fail)) | fail | fail) (by first | exact hvσ_2 | assumption | fail | fail) (by first | exact hcFR_σ_2 | assumption | fail | fail) (by omega))
                        ·
                          refine g_aload_n h dX12_astray_102 0 rfl ?_
                          refine g_iload_n h dX12_astray_103 3 rfl ?_
                          refine g_iload h dX12_astray_104 4 rfl ?_
                          refine g_cvpi (rest := []) h (r_farOf hW a b μ (by first | exact hvσ_2 | assumption | fail) (by assumption) (by omega) (by omega)) lX12_farOf mX12_327 (Nat.lt_of_lt_of_le (by decide) (Nat.le_refl _)) (by decide) sc_0 rfl rfl rfl rfl dX12_astray_106 ?_
                          refine g_ifN_eq h dX12_astray_109 (by omega) (fun c109 => ?_) (fun c109 => ?_)
                          ·
                            refine g_iconst h dX12_astray_128 (by decide) ?_
                            refine g_goto h dX12_astray_129 ?_
                            refine g_istore (L' := [(0, .ref (w.1 0)), (1, .int (nI (toN wt))), (2, .int (nI n2)), (3, .int (nI a)), (4, .int (nI b)), (5, .int (nI ((gnw μ a b).1))), (6, .int (nI 1))]) h dX12_astray_133 rfl (by decide) rfl ?_
                            refine g_iload_n h dX12_astray_135 2 rfl ?_
                            refine g_iload h dX12_astray_136 6 rfl ?_
                            refine g_ifN_eq h dX12_astray_138 (by decide) (fun c138 => absurd c138 (by decide)) (fun c138 => ?_)
                            refine g_iconst h dX12_astray_141 (by decide) ?_
                            refine g_goto h dX12_astray_142 ?_
                            refine g_iaddN h dX12_astray_146  ?_
                            refine g_istore_n (L' := [(0, .ref (w.1 0)), (1, .int (nI (toN wt))), (2, .int (nI (n2 + 1))), (3, .int (nI a)), (4, .int (nI b)), (5, .int (nI ((gnw μ a b).1))), (6, .int (nI 1))]) h dX12_astray_147 rfl (by decide) rfl ?_
                            refine g_iincN (b := 1) (L' := [(0, .ref (w.1 0)), (1, .int (nI (toN wt))), (2, .int (nI (n2 + 1))), (3, .int (nI a)), (4, .int (nI (b + 1))), (5, .int (nI ((gnw μ a b).1))), (6, .int (nI 1))]) h dX12_astray_148 4 rfl rfl (by decide) (by decide) rfl ?_
                            refine g_goto h dX12_astray_151 ?_
                            exact g_sub [0, 1, 2, 3, 4] rfl (ih31 (n2 + 1) (b + 1) σ_2 (by omega) (by first | (exact as_1 hn2 (by first | (simp [asB, c6, c25, c38, c44, c52, c61, c78, c99, c109]; done) | (simp [asB, c6, c25, c38, c44, c52, c61, c78, c99, c109]; omega) | fail)) | (exact as_0 hn2 (by first | (simp [asB, c6, c25, c38, c44, c52, c61, c78, c99, c109]; done) | (simp [asB, c6, c25, c38, c44, c52, c61, c78, c99, c109]; omega) | fail)) | fail | fail) (by first | exact hvσ_2 | assumption | fail | fail) (by first | exact hcFR_σ_2 | assumption | fail | fail) (by omega))
                          ·
                            refine g_aload_n h dX12_astray_112 0 rfl ?_
                            refine g_geti h dX12_astray_113 gX12_312 sc_0 rfl ?_
                            refine g_top (y := (nI ((gnw μ a b).2.1))) (by first | exact ht5011_σ_2 | assumption) ?_
                            refine g_iconst h dX12_astray_116 (by decide) ?_
                            refine g_isubN h dX12_astray_117 (by omega) ?_
                            refine g_aload_n h dX12_astray_118 0 rfl ?_
                            refine g_iload_n h dX12_astray_119 3 rfl ?_
                            refine g_iload h dX12_astray_120 4 rfl ?_
                            refine g_cvpi (rest := [.int (nI (((gnw μ a b).2.1) - 1))]) h (r_farOf hW a b μ (by first | exact hvσ_2 | assumption | fail) (by assumption) (by omega) (by omega)) lX12_farOf mX12_327 (Nat.lt_of_lt_of_le (by decide) (Nat.le_refl _)) (by decide) sc_0 rfl rfl rfl rfl dX12_astray_122 ?_
                            refine g_icmpN_le h dX12_astray_125 (by omega) (by omega) (fun c125 => ?_) (fun c125 => ?_)
                            ·
                              refine g_iconst h dX12_astray_132 (by decide) ?_
                              refine g_istore (L' := [(0, .ref (w.1 0)), (1, .int (nI (toN wt))), (2, .int (nI n2)), (3, .int (nI a)), (4, .int (nI b)), (5, .int (nI ((gnw μ a b).1))), (6, .int (nI 0))]) h dX12_astray_133 rfl (by decide) rfl ?_
                              refine g_iload_n h dX12_astray_135 2 rfl ?_
                              refine g_iload h dX12_astray_136 6 rfl ?_
                              refine g_ifN_eq h dX12_astray_138 (by decide) (fun c138 => ?_) (fun c138 => absurd c138 (by decide))
                              refine g_iconst h dX12_astray_145 (by decide) ?_
                              refine g_iaddN h dX12_astray_146  ?_
                              refine g_istore_n (L' := [(0, .ref (w.1 0)), (1, .int (nI (toN wt))), (2, .int (nI (n2 + 0))), (3, .int (nI a)), (4, .int (nI b)), (5, .int (nI ((gnw μ a b).1))), (6, .int (nI 0))]) h dX12_astray_147 rfl (by decide) rfl ?_
                              refine g_iincN (b := 1) (L' := [(0, .ref (w.1 0)), (1, .int (nI (toN wt))), (2, .int (nI (n2 + 0))), (3, .int (nI a)), (4, .int (nI (b + 1))), (5, .int (nI ((gnw μ a b).1))), (6, .int (nI 0))]) h dX12_astray_148 4 rfl rfl (by decide) (by decide) rfl ?_
                              refine g_goto h dX12_astray_151 ?_
                              exact g_sub [0, 1, 2, 3, 4] rfl (ih31 (n2 + 0) (b + 1) σ_2 (by omega) (by first | (exact as_1 hn2 (by first | (simp [asB, c6, c25, c38, c44, c52, c61, c78, c99, c109, c125]; done) | (simp [asB, c6, c25, c38, c44, c52, c61, c78, c99, c109, c125]; omega) | fail)) | (exact as_0 hn2 (by first | (simp [asB, c6, c25, c38, c44, c52, c61, c78, c99, c109, c125]; done) | (simp [asB, c6, c25, c38, c44, c52, c61, c78, c99, c109, c125]; omega) | fail)) | fail | fail) (by first | exact hvσ_2 | assumption | fail | fail) (by first | exact hcFR_σ_2 | assumption | fail | fail) (by omega))
                            ·
                              refine g_iconst h dX12_astray_128 (by decide) ?_
                              refine g_goto h dX12_astray_129 ?_
                              refine g_istore (L' := [(0, .ref (w.1 0)), (1, .int (nI (toN wt))), (2, .int (nI n2)), (3, .int (nI a)), (4, .int (nI b)), (5, .int (nI ((gnw μ a b).1))), (6, .int (nI 1))]) h dX12_astray_133 rfl (by decide) rfl ?_
                              refine g_iload_n h dX12_astray_135 2 rfl ?_
                              refine g_iload h dX12_astray_136 6 rfl ?_
                              refine g_ifN_eq h dX12_astray_138 (by decide) (fun c138 => absurd c138 (by decide)) (fun c138 => ?_)
                              refine g_iconst h dX12_astray_141 (by decide) ?_
                              refine g_goto h dX12_astray_142 ?_
                              refine g_iaddN h dX12_astray_146  ?_
                              refine g_istore_n (L' := [(0, .ref (w.1 0)), (1, .int (nI (toN wt))), (2, .int (nI (n2 + 1))), (3, .int (nI a)), (4, .int (nI b)), (5, .int (nI ((gnw μ a b).1))), (6, .int (nI 1))]) h dX12_astray_147 rfl (by decide) rfl ?_
                              refine g_iincN (b := 1) (L' := [(0, .ref (w.1 0)), (1, .int (nI (toN wt))), (2, .int (nI (n2 + 1))), (3, .int (nI a)), (4, .int (nI (b + 1))), (5, .int (nI ((gnw μ a b).1))), (6, .int (nI 1))]) h dX12_astray_148 4 rfl rfl (by decide) (by decide) rfl ?_
                              refine g_goto h dX12_astray_151 ?_
                              exact g_sub [0, 1, 2, 3, 4] rfl (ih31 (n2 + 1) (b + 1) σ_2 (by omega) (by first | (exact as_1 hn2 (by first | (simp [asB, c6, c25, c38, c44, c52, c61, c78, c99, c109, c125]; done) | (simp [asB, c6, c25, c38, c44, c52, c61, c78, c99, c109, c125]; omega) | fail)) | (exact as_0 hn2 (by first | (simp [asB, c6, c25, c38, c44, c52, c61, c78, c99, c109, c125]; done) | (simp [asB, c6, c25, c38, c44, c52, c61, c78, c99, c109, c125]; omega) | fail)) | fail | fail) (by first | exact hvσ_2 | assumption | fail | fail) (by first | exact hcFR_σ_2 | assumption | fail | fail) (by omega))
                      ·
                        refine g_iload h dX12_astray_81 5 rfl ?_
                        refine g_iload_n h dX12_astray_83 1 rfl ?_
                        refine g_iconst h dX12_astray_84 (by decide) ?_
                        refine g_iaddN h dX12_astray_85  ?_
                        refine g_icmpN_ne h dX12_astray_86 (by omega) (by omega) (fun c86 => ?_) (fun c86 => ?_)
                        ·
                          refine g_iconst h dX12_astray_93 (by decide) ?_
                          refine g_goto h dX12_astray_94 ?_
                          refine g_istore (L' := [(0, .ref (w.1 0)), (1, .int (nI (toN wt))), (2, .int (nI n2)), (3, .int (nI a)), (4, .int (nI b)), (5, .int (nI ((gnw μ a b).1))), (6, .int (nI 0))]) h dX12_astray_133 rfl (by decide) rfl ?_
                          refine g_iload_n h dX12_astray_135 2 rfl ?_
                          refine g_iload h dX12_astray_136 6 rfl ?_
                          refine g_ifN_eq h dX12_astray_138 (by decide) (fun c138 => ?_) (fun c138 => absurd c138 (by decide))
                          refine g_iconst h dX12_astray_145 (by decide) ?_
                          refine g_iaddN h dX12_astray_146  ?_
                          refine g_istore_n (L' := [(0, .ref (w.1 0)), (1, .int (nI (toN wt))), (2, .int (nI (n2 + 0))), (3, .int (nI a)), (4, .int (nI b)), (5, .int (nI ((gnw μ a b).1))), (6, .int (nI 0))]) h dX12_astray_147 rfl (by decide) rfl ?_
                          refine g_iincN (b := 1) (L' := [(0, .ref (w.1 0)), (1, .int (nI (toN wt))), (2, .int (nI (n2 + 0))), (3, .int (nI a)), (4, .int (nI (b + 1))), (5, .int (nI ((gnw μ a b).1))), (6, .int (nI 0))]) h dX12_astray_148 4 rfl rfl (by decide) (by decide) rfl ?_
                          refine g_goto h dX12_astray_151 ?_
                          exact g_sub [0, 1, 2, 3, 4] rfl (ih31 (n2 + 0) (b + 1) σ_2 (by omega) (by first | (exact as_1 hn2 (by first | (simp [asB, c6, c25, c38, c44, c52, c61, c78, c86]; done) | (simp [asB, c6, c25, c38, c44, c52, c61, c78, c86]; omega) | fail)) | (exact as_0 hn2 (by first | (simp [asB, c6, c25, c38, c44, c52, c61, c78, c86]; done) | (simp [asB, c6, c25, c38, c44, c52, c61, c78, c86]; omega) | fail)) | fail | fail) (by first | exact hvσ_2 | assumption | fail | fail) (by first | exact hcFR_σ_2 | assumption | fail | fail) (by omega))
                        ·
                          refine g_iconst h dX12_astray_89 (by decide) ?_
                          refine g_goto h dX12_astray_90 ?_
                          refine g_istore (L' := [(0, .ref (w.1 0)), (1, .int (nI (toN wt))), (2, .int (nI n2)), (3, .int (nI a)), (4, .int (nI b)), (5, .int (nI ((gnw μ a b).1))), (6, .int (nI 1))]) h dX12_astray_133 rfl (by decide) rfl ?_
                          refine g_iload_n h dX12_astray_135 2 rfl ?_
                          refine g_iload h dX12_astray_136 6 rfl ?_
                          refine g_ifN_eq h dX12_astray_138 (by decide) (fun c138 => absurd c138 (by decide)) (fun c138 => ?_)
                          refine g_iconst h dX12_astray_141 (by decide) ?_
                          refine g_goto h dX12_astray_142 ?_
                          refine g_iaddN h dX12_astray_146  ?_
                          refine g_istore_n (L' := [(0, .ref (w.1 0)), (1, .int (nI (toN wt))), (2, .int (nI (n2 + 1))), (3, .int (nI a)), (4, .int (nI b)), (5, .int (nI ((gnw μ a b).1))), (6, .int (nI 1))]) h dX12_astray_147 rfl (by decide) rfl ?_
                          refine g_iincN (b := 1) (L' := [(0, .ref (w.1 0)), (1, .int (nI (toN wt))), (2, .int (nI (n2 + 1))), (3, .int (nI a)), (4, .int (nI (b + 1))), (5, .int (nI ((gnw μ a b).1))), (6, .int (nI 1))]) h dX12_astray_148 4 rfl rfl (by decide) (by decide) rfl ?_
                          refine g_goto h dX12_astray_151 ?_
                          exact g_sub [0, 1, 2, 3, 4] rfl (ih31 (n2 + 1) (b + 1) σ_2 (by omega) (by first | (exact as_1 hn2 (by first | (simp [asB, c6, c25, c38, c44, c52, c61, c78, c86]; done) | (simp [asB, c6, c25, c38, c44, c52, c61, c78, c86]; omega) | fail)) | (exact as_0 hn2 (by first | (simp [asB, c6, c25, c38, c44, c52, c61, c78, c86]; done) | (simp [asB, c6, c25, c38, c44, c52, c61, c78, c86]; omega) | fail)) | fail | fail) (by first | exact hvσ_2 | assumption | fail | fail) (by first | exact hcFR_σ_2 | assumption | fail | fail) (by omega))
                    ·
                      refine g_goto h dX12_astray_64 ?_
                      refine g_iincN (b := 1) (L' := [(0, .ref (w.1 0)), (1, .int (nI (toN wt))), (2, .int (nI n2)), (3, .int (nI a)), (4, .int (nI (b + 1)))]) h dX12_astray_148 4 rfl rfl (by decide) (by decide) rfl ?_
                      refine g_goto h dX12_astray_151 ?_
                      exact ih31 n2 (b + 1) (τ2) (by omega) (by first | (exact as_1 hn2 (by first | (simp [asB, c6, c25, c38, c44, c52, c61]; done) | (simp [asB, c6, c25, c38, c44, c52, c61]; omega) | fail)) | (exact as_0 hn2 (by first | (simp [asB, c6, c25, c38, c44, c52, c61]; done) | (simp [asB, c6, c25, c38, c44, c52, c61]; omega) | fail)) | fail | fail) (by first | exact hvτ2 | assumption | fail | fail) (by first | exact hcFR_τ2 | assumption | fail | fail) (by omega)
          exact lp31 (_) n 0 (τ) (by omega) (by rfl) (by first | exact hvτ | assumption | fail | fail) (by first | exact hcFR_τ | assumption | fail | fail) (Nat.lt_succ_self _)
    exact lp19 (_) 0 0 σ (by omega) (by rfl) (by first | exact hv | assumption | fail | fail) (by first | exact hcFR_σ | assumption | fail | fail) (Nat.lt_succ_self _)
  ·
    refine g_aload_n h dX12_astray_9 0 rfl ?_
    refine g_iconst h dX12_astray_10 (by decide) ?_
    refine g_cvi (rest := []) h (r_refuse hW (nI 1) ) lX12_refuse mX12_272 (Nat.lt_of_lt_of_le (by decide) (Nat.le_refl _)) (by decide) sc_0 rfl rfl rfl rfl dX12_astray_11 (fun σ_3 eσ_3 => ?_)
    have eσ_3_a : σ_3 = upd σ 4000 (nI 1) := eσ_3
    have ht4000_σ_3 : σ_3 4000 = (nI 1) := by rw [eσ_3_a]; exact upd_eq
    have hcFR_σ_3 : ∀ a, ((a < 4900 ∨ 6000 ≤ a) ∧ a ≠ 4000) → σ_3 a = σ a := by intro a ha; exact Eq.trans (b := σ a) (by rw [eσ_3_a, upd_ne (by first | omega | (simp only [vb] at *; omega))]) (hcFR_σ a ha)
    have hvσ_3 : vw 0 σ_3 = μ := by rw [eσ_3_a, vw_out (by omega)]; first | exact hv | assumption
    exact g_iret h hQ dX12_astray_14 (congrArg (fun z => some (Value.int z)) (show (an (rg wt (nI 0) (nI 2)) (nI (v_ast μ (toN wt)))) = (-1) by first | exact an_yes (by first | rfl | (simp [fo, rg, ns, nB, ps, gst, ofS, offB, c6]; done) | (simp [fo, rg, ns, nB, ps, gst, ofS, offB, c6]; omega)) (by rw [hn, show a = nN μ from by omega]; rfl) | exact an_no (k := 1) (by first | rfl | (simp [fo, rg, ns, nB, ps, gst, ofS, offB, c6]; done) | (simp [fo, rg, ns, nB, ps, gst, ofS, offB, c6]; omega)) (by first | decide | omega | assumption | exact nb1 (by assumption)) | fail)) (by exact ⟨(by first | exact tk_eq (k := 1) (by first | rfl | (simp [fo, rg, ns, nB, ps, gst, ofS, offB, c6]; done) | (simp [fo, rg, ns, nB, ps, gst, ofS, offB, c6]; omega)) ht4000_σ_3 | exact tk_eq (k := 1) (by first | rfl | (simp [fo, rg, ns, nB, ps, gst, ofS, offB, c6]; done) | (simp [fo, rg, ns, nB, ps, gst, ofS, offB, c6]; omega)) ht4000_σ_3 | fail), (by exact hcFR_σ_3)⟩)

theorem as_k {n c k : Nat} {f : Nat → Nat} (h : n = sN f c) (h1 : f c = k) : n + k = sN f (c + 1) := by
  simp only [sN]
  omega
theorem as_j {n c : Nat} {f : Nat → Nat} (h : n = sN f c) (h1 : f c = 0) : n = sN f (c + 1) := by
  simp only [sN]
  omega
theorem b2i_N (p : Bool) : b2i p = nI p.toNat := by cases p <;> rfl
def asX (hw fw sp wt : Nat) : Bool := if wt = 0 then decide (hw = 1) else if wt = 1 then decide (hw = 2) else decide (hw = 0) && (decide (fw = 0) || decide (fw < sp))
theorem as_x {μ : Nat → Int32} {wt a b : Nat} (hw : wt ≤ 2) (h1 : a ≠ b) (h2 : tb (μ 1) a = true) (h3 : tb (μ 1) b = true) : asB μ wt a b = (asX (gnw μ a b).1 (far μ a b) ((gnw μ a b).2.1 - 1) wt).toNat := by
  have e : (!decide (a = b) && (tb (μ 1) a && tb (μ 1) b) && (if wt < 2 then decide ((gnw μ a b).1 = wt + 1) else decide ((gnw μ a b).1 = 0) && (decide (far μ a b = 0) || decide (far μ a b < (gnw μ a b).2.1 - 1)))) = asX (gnw μ a b).1 (far μ a b) ((gnw μ a b).2.1 - 1) wt := by
    rw [h2, h3, decide_eq_false h1]
    unfold asX
    have : wt = 0 ∨ wt = 1 ∨ wt = 2 := by omega
    rcases this with rfl | rfl | rfl <;> simp
  unfold asB
  rw [e]
  cases asX (gnw μ a b).1 (far μ a b) ((gnw μ a b).2.1 - 1) wt <;> rfl
theorem as_z {μ : Nat → Int32} {wt a b : Nat} (h : a = b ∨ tb (μ 1) a = false ∨ tb (μ 1) b = false) : asB μ wt a b = 0 := by
  unfold asB
  rcases h with h | h | h <;> rw [h] <;> simp
theorem on_of {μ : Nat → Int32} {k : Nat} (h : (decide (k < nN μ) && tb (μ 1) k) = true) : k < nN μ ∧ tb (μ 1) k = true := by
  rw [Bool.and_eq_true] at h
  exact ⟨of_decide_eq_true h.1, h.2⟩
theorem off_of {μ : Nat → Int32} {k : Nat} (hI : MI μ) (h : (decide (k < nN μ) && tb (μ 1) k) = false) : tb (μ 1) k = false := by
  by_cases c : k < nN μ
  · rw [decide_eq_true c, Bool.true_and] at h
    exact h
  · exact ms_on hI k (by omega)

set_option maxRecDepth 100000 in
set_option maxHeartbeats 4000000 in
theorem c_isAstray {l : Launch} {w : Wd} (hW : Wi w) {σ : Mem} (fw wt hw sp : Nat) (hwt : wt ≤ 2) (hf : fw < 100) (hh : hw ≤ 2) (hp : sp < 100) (ht15021_σ : σ 15021 = (nI hw)) (ht15020_σ : σ 15020 = (nI sp)) : MC l w qX11_isAstray 0 [.ref (w.1 12), .int (nI fw), .int (nI wt)] σ (some (.int (b2i (asX hw fw sp wt)))) (fun σ' => σ' = σ) := by
  refine MC.of hW (by decide +kernel) (Nat.le_of_ble_eq_true rfl) (fun X h hQ hnm => ?_)
  have h : Fx X w cX11_isAstray 3 RX11 0 := h
  have hQ : Qx X w (some .boolean) (some (.int (b2i (asX hw fw sp wt)))) (fun σ' => σ' = σ) := hQ
  show G X w 3 0 [(0, .ref (w.1 12)), (1, .int (nI fw)), (2, .int (nI wt))] [] σ
  refine g_iload_n h dX11_isAstray_0 2 rfl ?_
  rcases (show wt = 0 ∨ wt = 1 ∨ wt = 2 by omega) with hc1 | hc1 | hc1
  ·
    refine g_lsw (off := 27) (tgt := 28) h dX11_isAstray_1 (by decide) (by rw [hc1]; decide) (by decide) ?_
    refine g_aload_n h dX11_isAstray_28 0 rfl ?_
    refine g_getr h dX11_isAstray_29 gX11_58 sc_12 rfl ?_
    refine g_geti h dX11_isAstray_32 gX11_293 sc_23 rfl ?_
    refine g_top (y := (nI hw)) (by first | exact ht15021_σ | assumption) ?_
    refine g_iconst h dX11_isAstray_35 (by decide) ?_
    refine g_icmpN_ne h dX11_isAstray_36 (by omega) (by omega) (fun c36 => ?_) (fun c36 => ?_)
    ·
      refine g_iconst h dX11_isAstray_43 (by decide) ?_
      exact g_zret h hQ dX11_isAstray_44 (show narrow .boolean (.int (b2i false)) = .int (b2i false) from narrow_b2i _) (congrArg (fun z => some (Value.int (b2i z))) (show (asX hw fw sp wt) = false by first | (simp [asX, hc1, c36]; done) | (simp [asX, hc1, c36]; omega) | fail)) rfl
    ·
      refine g_iconst h dX11_isAstray_39 (by decide) ?_
      refine g_goto h dX11_isAstray_40 ?_
      exact g_zret h hQ dX11_isAstray_44 (show narrow .boolean (.int (b2i true)) = .int (b2i true) from narrow_b2i _) (congrArg (fun z => some (Value.int (b2i z))) (show (asX hw fw sp wt) = true by first | (simp [asX, hc1, c36]; done) | (simp [asX, hc1, c36]; omega) | fail)) rfl
  ·
    refine g_lsw (off := 44) (tgt := 45) h dX11_isAstray_1 (by decide) (by rw [hc1]; decide) (by decide) ?_
    refine g_aload_n h dX11_isAstray_45 0 rfl ?_
    refine g_getr h dX11_isAstray_46 gX11_58 sc_12 rfl ?_
    refine g_geti h dX11_isAstray_49 gX11_293 sc_23 rfl ?_
    refine g_top (y := (nI hw)) (by first | exact ht15021_σ | assumption) ?_
    refine g_iconst h dX11_isAstray_52 (by decide) ?_
    refine g_icmpN_ne h dX11_isAstray_53 (by omega) (by omega) (fun c53 => ?_) (fun c53 => ?_)
    ·
      refine g_iconst h dX11_isAstray_60 (by decide) ?_
      exact g_zret h hQ dX11_isAstray_61 (show narrow .boolean (.int (b2i false)) = .int (b2i false) from narrow_b2i _) (congrArg (fun z => some (Value.int (b2i z))) (show (asX hw fw sp wt) = false by first | (simp [asX, hc1, c53]; done) | (simp [asX, hc1, c53]; omega) | fail)) rfl
    ·
      refine g_iconst h dX11_isAstray_56 (by decide) ?_
      refine g_goto h dX11_isAstray_57 ?_
      exact g_zret h hQ dX11_isAstray_61 (show narrow .boolean (.int (b2i true)) = .int (b2i true) from narrow_b2i _) (congrArg (fun z => some (Value.int (b2i z))) (show (asX hw fw sp wt) = true by first | (simp [asX, hc1, c53]; done) | (simp [asX, hc1, c53]; omega) | fail)) rfl
  ·
    refine g_lsw (off := 61) (tgt := 62) h dX11_isAstray_1 (by decide) (by rw [hc1]; decide) (by decide) ?_
    refine g_aload_n h dX11_isAstray_62 0 rfl ?_
    refine g_getr h dX11_isAstray_63 gX11_58 sc_12 rfl ?_
    refine g_geti h dX11_isAstray_66 gX11_293 sc_23 rfl ?_
    refine g_top (y := (nI hw)) (by first | exact ht15021_σ | assumption) ?_
    refine g_ifN_ne h dX11_isAstray_69 (by omega) (fun c69 => ?_) (fun c69 => ?_)
    ·
      refine g_iconst h dX11_isAstray_91 (by decide) ?_
      exact g_zret h hQ dX11_isAstray_92 (show narrow .boolean (.int (b2i false)) = .int (b2i false) from narrow_b2i _) (congrArg (fun z => some (Value.int (b2i z))) (show (asX hw fw sp wt) = false by first | (simp [asX, hc1, c69]; done) | (simp [asX, hc1, c69]; omega) | fail)) rfl
    ·
      refine g_iload_n h dX11_isAstray_72 1 rfl ?_
      refine g_ifN_eq h dX11_isAstray_73 (by omega) (fun c73 => ?_) (fun c73 => ?_)
      ·
        refine g_iconst h dX11_isAstray_87 (by decide) ?_
        refine g_goto h dX11_isAstray_88 ?_
        exact g_zret h hQ dX11_isAstray_92 (show narrow .boolean (.int (b2i true)) = .int (b2i true) from narrow_b2i _) (congrArg (fun z => some (Value.int (b2i z))) (show (asX hw fw sp wt) = true by first | (simp [asX, hc1, c69, c73]; done) | (simp [asX, hc1, c69, c73]; omega) | fail)) rfl
      ·
        refine g_aload_n h dX11_isAstray_76 0 rfl ?_
        refine g_getr h dX11_isAstray_77 gX11_58 sc_12 rfl ?_
        refine g_geti h dX11_isAstray_80 gX11_296 sc_23 rfl ?_
        refine g_top (y := (nI sp)) (by first | exact ht15020_σ | assumption) ?_
        refine g_iload_n h dX11_isAstray_83 1 rfl ?_
        refine g_icmpN_le h dX11_isAstray_84 (by omega) (by omega) (fun c84 => ?_) (fun c84 => ?_)
        ·
          refine g_iconst h dX11_isAstray_91 (by decide) ?_
          exact g_zret h hQ dX11_isAstray_92 (show narrow .boolean (.int (b2i false)) = .int (b2i false) from narrow_b2i _) (congrArg (fun z => some (Value.int (b2i z))) (show (asX hw fw sp wt) = false by first | (simp [asX, hc1, c69, c73, c84]; done) | (simp [asX, hc1, c69, c73, c84]; omega) | fail)) rfl
        ·
          refine g_iconst h dX11_isAstray_87 (by decide) ?_
          refine g_goto h dX11_isAstray_88 ?_
          exact g_zret h hQ dX11_isAstray_92 (show narrow .boolean (.int (b2i true)) = .int (b2i true) from narrow_b2i _) (congrArg (fun z => some (Value.int (b2i z))) (show (asX hw fw sp wt) = true by first | (simp [asX, hc1, c69, c73, c84]; done) | (simp [asX, hc1, c69, c73, c84]; omega) | fail)) rfl

set_option maxRecDepth 100000 in
set_option maxHeartbeats 4000000 in
theorem p_astray {l : Launch} {w : Wd} (hW : Wi w) {σ : Mem} (wt : Int32)  (μ : Nat → Int32) (hv : vw (vb 0) σ = μ) (hI : MI μ) : MC l w qX11_astray 4 [.ref (w.1 12), .int wt] σ (some (.int (an (rg wt (nI 0) (nI 2)) (nI (v_ast μ (toN wt)))))) (fun σ' => (σ' 14000 = (nI (rg wt (nI 0) (nI 2)))) ∧ (∀ a, (a < 14900 ∧ a ≠ 14000) → σ' a = σ a)) := by
  refine MC.of hW (by decide +kernel) (Nat.le_of_ble_eq_true rfl) (fun X h hQ hnm => ?_)
  have h : Fx X w cX11_astray 6 RX11 4 := h
  have hQ : Qx X w (some .int) (some (.int (an (rg wt (nI 0) (nI 2)) (nI (v_ast μ (toN wt)))))) (fun σ' => (σ' 14000 = (nI (rg wt (nI 0) (nI 2)))) ∧ (∀ a, (a < 14900 ∧ a ≠ 14000) → σ' a = σ a)) := hQ
  have hN8 := mi_8 hI
  have hcFR_σ : ∀ a, (a < 14900 ∧ a ≠ 14000) → σ a = σ a := fun _ _ => rfl
  show G X w 6 0 [(0, .ref (w.1 12)), (1, .int wt)] [] σ
  refine g_aload_n h dX11_astray_0 0 rfl ?_
  refine g_iload_n h dX11_astray_1 1 rfl ?_
  refine g_iconst h dX11_astray_2 (by decide) ?_
  refine g_iconst h dX11_astray_3 (by decide) ?_
  refine g_cspi (rest := [.ref (w.1 12)]) h (c_rg hW wt (nI 0) (nI 2) ) lX11_rangeStatus mX11_102 (Nat.lt_of_lt_of_le (by decide) (Nat.le_refl _)) (by decide) rfl rfl rfl dX11_astray_4 ?_
  refine g_cvi (rest := []) h (c_fails hW (rg wt (nI 0) (nI 2)) (by repeat (first | omega | exact rg_lt | exact ns_lt | exact ps_lt | exact gst_lt | exact ofS_lt | exact if_lt (by decide) (by decide) | apply fo_lt))) lX11_fails mX11_106 (Nat.lt_of_lt_of_le (by decide) (Nat.le_refl _)) (by decide) sc_12 rfl rfl rfl rfl dX11_astray_7 (fun σ_1 eσ_1 => ?_)
  obtain ⟨eσ_1_a, eσ_1_b⟩ := eσ_1
  have eσ_1_a : σ_1 14000 = (nI (rg wt (nI 0) (nI 2))) := eσ_1_a
  have eσ_1_b : ∀ a, (a ≠ 14000) → σ_1 a = σ a := eσ_1_b
  have ht14000_σ_1 : σ_1 14000 = (nI (rg wt (nI 0) (nI 2))) := eσ_1_a
  have hcFR_σ_1 : ∀ a, (a < 14900 ∧ a ≠ 14000) → σ_1 a = σ a := by intro a ha; exact Eq.trans (b := σ a) (eσ_1_b a (by first | omega | (simp only [vb] at *; omega))) (hcFR_σ a ha)
  have hvσ_1 : vw (vb 0) σ_1 = μ := by rw [vw_fr (σ := σ) (fun j _ _ => eσ_1_b _ (by first | omega | (simp only [vb] at *; omega)))]; first | exact hv | assumption
  refine g_ifB_eq h dX11_astray_10 (fun c10 => ?_) (fun c10 => ?_)
  ·
    have hS0 := nb0 c10
    obtain ⟨ew, hw9⟩ := rg_N (by decide) hS0
    rw [ew]
    show G X w 6 15 [(0, .ref (w.1 12)), (1, .int (nI (toN wt)))] [] σ_1
    refine g_aload_n h dX11_astray_15 0 rfl ?_
    refine g_getr h dX11_astray_16 gX11_51 sc_12 rfl ?_
    refine g_aload_n h dX11_astray_19 0 rfl ?_
    refine g_getr h dX11_astray_20 gX11_23 sc_12 rfl ?_
    refine g_cvv (rest := []) h (c_findAll hW 0 μ (by first | omega | decide | fail) (by first | exact hvσ_1 | assumption | fail) (by assumption)) lX8_findAll mX11_286 (Nat.lt_of_lt_of_le (by decide) (Nat.le_refl _)) (by decide) sc_20 rfl rfl rfl rfl dX11_astray_23 (fun σ_2 eσ_2 => ?_)
    obtain ⟨eσ_2_a, eσ_2_b⟩ := eσ_2
    have eσ_2_a : CA σ_2 μ := eσ_2_a
    have eσ_2_b : ∀ a, (a < 15200 ∨ 15328 ≤ a) → σ_2 a = σ_1 a := eσ_2_b
    have ht14000_σ_2 : σ_2 14000 = (nI (rg wt (nI 0) (nI 2))) := by rw [eσ_2_b _ (by first | omega | (simp only [vb] at *; omega))]; first | exact ht14000_σ_1 | assumption
    have hcFR_σ_2 : ∀ a, (a < 14900 ∧ a ≠ 14000) → σ_2 a = σ a := by intro a ha; exact Eq.trans (b := σ_1 a) (eσ_2_b a (by first | omega | (simp only [vb] at *; omega))) (hcFR_σ_1 a ha)
    have hcCA_σ_2 : CA σ_2 μ := eσ_2_a
    have hvσ_2 : vw (vb 0) σ_2 = μ := by rw [vw_fr (σ := σ_1) (fun j _ _ => eσ_2_b _ (by first | omega | (simp only [vb] at *; omega)))]; first | exact hvσ_1 | assumption
    refine g_aload_n h dX11_astray_26 0 rfl ?_
    refine g_getr h dX11_astray_27 gX11_65 sc_12 rfl ?_
    refine g_aload_n h dX11_astray_30 0 rfl ?_
    refine g_getr h dX11_astray_31 gX11_23 sc_12 rfl ?_
    refine g_cvv (rest := []) h (c_see hW 0 μ (by first | omega | decide | fail) (by first | exact hvσ_2 | assumption | fail) (by assumption)) lX10_see mX11_305 (Nat.lt_of_lt_of_le (by decide) (Nat.le_refl _)) (by decide) sc_25 rfl rfl rfl rfl dX11_astray_34 (fun σ_3 eσ_3 => ?_)
    obtain ⟨eσ_3_a, eσ_3_b⟩ := eσ_3
    have eσ_3_a : TR σ_3 μ := eσ_3_a
    have eσ_3_b : ∀ a, (a ≠ 15030 ∧ (a < 15180 ∨ 15188 ≤ a) ∧ (a < 15330 ∨ 15394 ≤ a)) → σ_3 a = σ_2 a := eσ_3_b
    have ht14000_σ_3 : σ_3 14000 = (nI (rg wt (nI 0) (nI 2))) := by rw [eσ_3_b _ (by first | omega | (simp only [vb] at *; omega))]; first | exact ht14000_σ_2 | assumption
    have hcFR_σ_3 : ∀ a, (a < 14900 ∧ a ≠ 14000) → σ_3 a = σ a := by intro a ha; exact Eq.trans (b := σ_2 a) (eσ_3_b a (by first | omega | (simp only [vb] at *; omega))) (hcFR_σ_2 a ha)
    have hcCA_σ_3 : CA σ_3 μ := by exact CA.fr hcCA_σ_2 hI (fun a ha hb => eσ_3_b a (by first | omega | (simp only [vb] at *; omega)))
    have hcTR_σ_3 : TR σ_3 μ := eσ_3_a
    have hvσ_3 : vw (vb 0) σ_3 = μ := by rw [vw_fr (σ := σ_2) (fun j _ _ => eσ_3_b _ (by first | omega | (simp only [vb] at *; omega)))]; first | exact hvσ_2 | assumption
    refine g_iconst h dX11_astray_37 (by decide) ?_
    refine g_istore_n (L' := [(0, .ref (w.1 12)), (1, .int (nI (toN wt))), (2, .int (nI 0))]) h dX11_astray_38 rfl (by decide) rfl ?_
    refine g_iconst h dX11_astray_39 (by decide) ?_
    refine g_istore_n (L' := [(0, .ref (w.1 12)), (1, .int (nI (toN wt))), (2, .int (nI 0)), (3, .int (nI 0))]) h dX11_astray_40 rfl (by decide) rfl ?_
    have lp41 : ∀ (k9 : Nat) (n : Nat) (c : Nat) (τ : Mem), (c ≤ 64) → (n = sN (fun c => asB μ (toN wt) (c / 8) (c % 8)) c) → (vw (vb 0) τ = μ) → (τ 14000 = (nI (rg wt (nI 0) (nI 2)))) → (∀ a, (a < 14900 ∧ a ≠ 14000) → τ a = σ a) → (CA τ μ) → (TR τ μ) → 64 - c < k9 → G X w 6 41 [(0, .ref (w.1 12)), (1, .int (nI (toN wt))), (2, .int (nI n)), (3, .int (nI c))] [] (τ) := by
      intro k9
      induction k9 with
      | zero => intro n c τ hc hn hvτ ht14000_τ hcFR_τ hcCA_τ hcTR_τ hm9; exact absurd hm9 (Nat.not_lt_zero _)
      | succ k9 ih41 =>
        intro n c τ hc hn hvτ ht14000_τ hcFR_τ hcCA_τ hcTR_τ hm41
        refine g_iload_n h dX11_astray_41 3 rfl ?_
        refine g_bipush h dX11_astray_42 (by decide) ?_
        refine g_icmpN_ge h dX11_astray_44 (by omega) (by omega) (fun c44 => ?_) (fun c44 => ?_)
        ·
          refine g_iload_n h dX11_astray_135 2 rfl ?_
          exact g_iret h hQ dX11_astray_136 (congrArg (fun z => some (Value.int z)) (show (an (rg wt (nI 0) (nI 2)) (nI (v_ast μ (toN wt)))) = (nI n) by first | exact an_yes (by exact hS0) (by rw [hn, show c = 64 from by omega, ast_64 hI]) | exact an_no (k := (rg wt (nI 0) (nI 2))) (by first | rfl | (simp [fo, rg, ns, nB, ps, gst, ofS, offB, c10, c44]; done) | (simp [fo, rg, ns, nB, ps, gst, ofS, offB, c10, c44]; omega)) (by first | decide | omega | assumption | exact nb1 (by assumption)) | fail)) (by exact ⟨(by first | exact tk_eq (k := (rg wt (nI 0) (nI 2))) (by first | rfl | (simp [fo, rg, ns, nB, ps, gst, ofS, offB, c10, c44]; done) | (simp [fo, rg, ns, nB, ps, gst, ofS, offB, c10, c44]; omega)) ht14000_τ | exact tk_eq (k := (rg wt (nI 0) (nI 2))) (by exact hS0) ht14000_τ | fail), (by exact hcFR_τ)⟩)
        ·
          refine g_iload_n h dX11_astray_47 3 rfl ?_
          refine g_bipush h dX11_astray_48 (by decide) ?_
          refine g_idivN h dX11_astray_50 (by omega) (by omega) (by omega) ?_
          refine g_istore (L' := [(0, .ref (w.1 12)), (1, .int (nI (toN wt))), (2, .int (nI n)), (3, .int (nI c)), (4, .int (nI (c / 8)))]) h dX11_astray_51 rfl (by decide) rfl ?_
          refine g_iload_n h dX11_astray_53 3 rfl ?_
          refine g_bipush h dX11_astray_54 (by decide) ?_
          refine g_iremN h dX11_astray_56 (by omega) (by omega) (by omega) ?_
          refine g_istore (L' := [(0, .ref (w.1 12)), (1, .int (nI (toN wt))), (2, .int (nI n)), (3, .int (nI c)), (4, .int (nI (c / 8))), (5, .int (nI (c % 8)))]) h dX11_astray_57 rfl (by decide) rfl ?_
          refine g_iload h dX11_astray_59 4 rfl ?_
          refine g_iload h dX11_astray_61 5 rfl ?_
          refine g_icmpN_eq h dX11_astray_63 (by omega) (by omega) (fun c63 => ?_) (fun c63 => ?_)
          ·
            refine g_iincN (b := 1) (L' := [(0, .ref (w.1 12)), (1, .int (nI (toN wt))), (2, .int (nI n)), (3, .int (nI (c + 1))), (4, .int (nI (c / 8))), (5, .int (nI (c % 8)))]) h dX11_astray_129 3 rfl rfl (by decide) (by decide) rfl ?_
            refine g_goto h dX11_astray_132 ?_
            exact g_sub [0, 1, 2, 3] rfl (ih41 n (c + 1) (τ) (by omega) (by first | exact as_k hn (as_x hw9 c63 (on_of c75).2 (on_of c87).2) | exact as_j hn (as_z (Or.inl c63)) | exact as_j hn (as_z (Or.inr (Or.inl (off_of hI c75)))) | exact as_j hn (as_z (Or.inr (Or.inr (off_of hI c87)))) | fail | fail) (by first | exact hvτ | assumption | fail | fail) (by first | exact ht14000_τ | assumption | fail | fail) (by first | exact hcFR_τ | assumption | fail | fail) (by first | exact hcCA_τ | assumption | fail | fail) (by first | exact hcTR_τ | assumption | fail | fail) (by omega))
          ·
            refine g_aload_n h dX11_astray_66 0 rfl ?_
            refine g_getr h dX11_astray_67 gX11_23 sc_12 rfl ?_
            refine g_iload h dX11_astray_70 4 rfl ?_
            refine g_cvpi (rest := []) h (c_isOnN hW (c / 8) 0 μ (by first | omega | decide | fail) (by first | exact hvτ | assumption | fail) (by assumption) (by omega)) lX5_isOn mX11_167 (Nat.lt_of_lt_of_le (by decide) (Nat.le_refl _)) (by decide) (sM_0 (m := 0) (by decide)) rfl rfl rfl rfl dX11_astray_72 ?_
            refine g_ifB_eq h dX11_astray_75 (fun c75 => ?_) (fun c75 => ?_)
            ·
              refine g_iincN (b := 1) (L' := [(0, .ref (w.1 12)), (1, .int (nI (toN wt))), (2, .int (nI n)), (3, .int (nI (c + 1))), (4, .int (nI (c / 8))), (5, .int (nI (c % 8)))]) h dX11_astray_129 3 rfl rfl (by decide) (by decide) rfl ?_
              refine g_goto h dX11_astray_132 ?_
              exact g_sub [0, 1, 2, 3] rfl (ih41 n (c + 1) (τ) (by omega) (by first | exact as_k hn (as_x hw9 c63 (on_of c75).2 (on_of c87).2) | exact as_j hn (as_z (Or.inl c63)) | exact as_j hn (as_z (Or.inr (Or.inl (off_of hI c75)))) | exact as_j hn (as_z (Or.inr (Or.inr (off_of hI c87)))) | fail | fail) (by first | exact hvτ | assumption | fail | fail) (by first | exact ht14000_τ | assumption | fail | fail) (by first | exact hcFR_τ | assumption | fail | fail) (by first | exact hcCA_τ | assumption | fail | fail) (by first | exact hcTR_τ | assumption | fail | fail) (by omega))
            ·
              refine g_aload_n h dX11_astray_78 0 rfl ?_
              refine g_getr h dX11_astray_79 gX11_23 sc_12 rfl ?_
              refine g_iload h dX11_astray_82 5 rfl ?_
              refine g_cvpi (rest := []) h (c_isOnN hW (c % 8) 0 μ (by first | omega | decide | fail) (by first | exact hvτ | assumption | fail) (by assumption) (by omega)) lX5_isOn mX11_167 (Nat.lt_of_lt_of_le (by decide) (Nat.le_refl _)) (by decide) (sM_0 (m := 0) (by decide)) rfl rfl rfl rfl dX11_astray_84 ?_
              refine g_ifB_eq h dX11_astray_87 (fun c87 => ?_) (fun c87 => ?_)
              ·
                refine g_iincN (b := 1) (L' := [(0, .ref (w.1 12)), (1, .int (nI (toN wt))), (2, .int (nI n)), (3, .int (nI (c + 1))), (4, .int (nI (c / 8))), (5, .int (nI (c % 8)))]) h dX11_astray_129 3 rfl rfl (by decide) (by decide) rfl ?_
                refine g_goto h dX11_astray_132 ?_
                exact g_sub [0, 1, 2, 3] rfl (ih41 n (c + 1) (τ) (by omega) (by first | exact as_k hn (as_x hw9 c63 (on_of c75).2 (on_of c87).2) | exact as_j hn (as_z (Or.inl c63)) | exact as_j hn (as_z (Or.inr (Or.inl (off_of hI c75)))) | exact as_j hn (as_z (Or.inr (Or.inr (off_of hI c87)))) | fail | fail) (by first | exact hvτ | assumption | fail | fail) (by first | exact ht14000_τ | assumption | fail | fail) (by first | exact hcFR_τ | assumption | fail | fail) (by first | exact hcCA_τ | assumption | fail | fail) (by first | exact hcTR_τ | assumption | fail | fail) (by omega))
              ·
                refine g_aload_n h dX11_astray_90 0 rfl ?_
                refine g_getr h dX11_astray_91 gX11_58 sc_12 rfl ?_
                refine g_aload_n h dX11_astray_94 0 rfl ?_
                refine g_getr h dX11_astray_95 gX11_23 sc_12 rfl ?_
                refine g_aload_n h dX11_astray_98 0 rfl ?_
                refine g_getr h dX11_astray_99 gX11_51 sc_12 rfl ?_
                refine g_iload h dX11_astray_102 4 rfl ?_
                refine g_iload h dX11_astray_104 5 rfl ?_
                refine g_cvv (rest := []) h (c_follow hW (c / 8) (c % 8) 0 μ (by first | omega | decide | fail) (by first | exact hvτ | assumption | fail) (by assumption) (by exact (on_of c75).1) (by exact (on_of c87).1) (by first | exact hcCA_τ | assumption | fail)) lX2_follow mX11_289 (Nat.lt_of_lt_of_le (by decide) (Nat.le_refl _)) (by decide) sc_23 rfl rfl rfl rfl dX11_astray_106 (fun σ_4 eσ_4 => ?_)
                obtain ⟨eσ_4_a, eσ_4_b, eσ_4_c, eσ_4_d, eσ_4_e, eσ_4_f⟩ := eσ_4
                have eσ_4_a : σ_4 15020 = (nI ((gnw μ (c / 8) (c % 8)).2.1 - 1)) := eσ_4_a
                have eσ_4_b : σ_4 15021 = (nI ((gnw μ (c / 8) (c % 8)).1)) := eσ_4_b
                have eσ_4_c : σ_4 15022 = ((gnw μ (c / 8) (c % 8)).2.2.2) := eσ_4_c
                have eσ_4_d : CA σ_4 μ := eσ_4_d
                have eσ_4_e : GN 15170 σ_4 (gnw μ (c / 8) (c % 8)).2.1 (gnw μ (c / 8) (c % 8)).2.2.1 := eσ_4_e
                have eσ_4_f : ∀ a, ((a < 15020 ∨ 15023 ≤ a) ∧ (a < 15170 ∨ 15179 ≤ a)) → σ_4 a = (τ) a := eσ_4_f
                have ht14000_σ_4 : σ_4 14000 = (nI (rg wt (nI 0) (nI 2))) := by rw [eσ_4_f _ (by first | omega | (simp only [vb] at *; omega))]; first | exact ht14000_τ | assumption
                have ht15020_σ_4 : σ_4 15020 = (nI ((gnw μ (c / 8) (c % 8)).2.1 - 1)) := eσ_4_a
                have ht15021_σ_4 : σ_4 15021 = (nI ((gnw μ (c / 8) (c % 8)).1)) := eσ_4_b
                have ht15022_σ_4 : σ_4 15022 = ((gnw μ (c / 8) (c % 8)).2.2.2) := eσ_4_c
                have hcFR_σ_4 : ∀ a, (a < 14900 ∧ a ≠ 14000) → σ_4 a = σ a := by intro a ha; exact Eq.trans (b := (τ) a) (eσ_4_f a (by first | omega | (simp only [vb] at *; omega))) (hcFR_τ a ha)
                have hcCA_σ_4 : CA σ_4 μ := eσ_4_d
                have hcTR_σ_4 : TR σ_4 μ := by exact TR.fr hcTR_τ (fun a ha hb => eσ_4_f a (by first | omega | (simp only [vb] at *; omega)))
                have hcGN_σ_4 : GN 15170 σ_4 (gnw μ (c / 8) (c % 8)).2.1 (gnw μ (c / 8) (c % 8)).2.2.1 := eσ_4_e
                have hvσ_4 : vw (vb 0) σ_4 = μ := by rw [vw_fr (σ := (τ)) (fun j _ _ => eσ_4_f _ (by first | omega | (simp only [vb] at *; omega)))]; first | exact hvτ | assumption
                have hgh := gnw_how (μ := μ) (fr := (c / 8)) (to := (c % 8))
                have hg1 := gnw_1 (μ := μ) (fr := (c / 8)) (to := (c % 8))
                have hg9 := gnw_le (μ := μ) (fr := (c / 8)) (to := (c % 8))
                have hfl := far_lt (μ := μ) (f := (c / 8)) (t := (c % 8))
                refine g_iload_n h dX11_astray_109 2 rfl ?_
                refine g_aload_n h dX11_astray_110 0 rfl ?_
                refine g_aload_n h dX11_astray_111 0 rfl ?_
                refine g_getr h dX11_astray_112 gX11_65 sc_12 rfl ?_
                refine g_getr h dX11_astray_115 gX11_308 sc_25 rfl ?_
                refine g_iload_n h dX11_astray_118 3 rfl ?_
                refine g_iald h dX11_astray_119 sc_27 (by omega) ?_
                refine g_top (y := (nI (far μ (c / 8) (c % 8)))) (Eq.trans (congrArg _ (by omega)) (hcTR_σ_4.2.2 (c / 8) (by omega) (c % 8) (by omega))) ?_
                refine g_iload_n h dX11_astray_120 1 rfl ?_
                refine g_cvpi (rest := [.int (nI n)]) h (c_isAstray hW (far μ (c / 8) (c % 8)) (toN wt) ((gnw μ (c / 8) (c % 8)).1) ((gnw μ (c / 8) (c % 8)).2.1 - 1) (by omega) (by omega) (by omega) (by omega) (by first | exact ht15021_σ_4 | assumption | fail) (by first | exact ht15020_σ_4 | assumption | fail)) lX11_isAstray mX11_326 (Nat.lt_of_lt_of_le (by decide) (Nat.le_refl _)) (by decide) sc_12 rfl rfl rfl rfl dX11_astray_121 ?_
                refine g_cspi (rest := [.int (nI n)]) h (c_asN hW (asX ((gnw μ (c / 8) (c % 8)).1) (far μ (c / 8) (c % 8)) ((gnw μ (c / 8) (c % 8)).2.1 - 1) (toN wt)) ) lX11_asNumber mX11_170 (Nat.lt_of_lt_of_le (by decide) (Nat.le_refl _)) (by decide) rfl rfl rfl dX11_astray_124 ?_
                refine g_top (y := (nI ((asX (gnw μ (c / 8) (c % 8)).1 (far μ (c / 8) (c % 8)) ((gnw μ (c / 8) (c % 8)).2.1 - 1) (toN wt)).toNat))) (b2i_N _) ?_
                refine g_iaddN h dX11_astray_127  ?_
                refine g_istore_n (L' := [(0, .ref (w.1 12)), (1, .int (nI (toN wt))), (2, .int (nI (n + (asX (gnw μ (c / 8) (c % 8)).1 (far μ (c / 8) (c % 8)) ((gnw μ (c / 8) (c % 8)).2.1 - 1) (toN wt)).toNat))), (3, .int (nI c)), (4, .int (nI (c / 8))), (5, .int (nI (c % 8)))]) h dX11_astray_128 rfl (by decide) rfl ?_
                refine g_iincN (b := 1) (L' := [(0, .ref (w.1 12)), (1, .int (nI (toN wt))), (2, .int (nI (n + (asX (gnw μ (c / 8) (c % 8)).1 (far μ (c / 8) (c % 8)) ((gnw μ (c / 8) (c % 8)).2.1 - 1) (toN wt)).toNat))), (3, .int (nI (c + 1))), (4, .int (nI (c / 8))), (5, .int (nI (c % 8)))]) h dX11_astray_129 3 rfl rfl (by decide) (by decide) rfl ?_
                refine g_goto h dX11_astray_132 ?_
                exact g_sub [0, 1, 2, 3] rfl (ih41 (n + (asX (gnw μ (c / 8) (c % 8)).1 (far μ (c / 8) (c % 8)) ((gnw μ (c / 8) (c % 8)).2.1 - 1) (toN wt)).toNat) (c + 1) σ_4 (by omega) (by first | exact as_k hn (as_x hw9 c63 (on_of c75).2 (on_of c87).2) | exact as_j hn (as_z (Or.inl c63)) | exact as_j hn (as_z (Or.inr (Or.inl (off_of hI c75)))) | exact as_j hn (as_z (Or.inr (Or.inr (off_of hI c87)))) | fail | fail) (by first | exact hvσ_4 | assumption | fail | fail) (by first | exact ht14000_σ_4 | assumption | fail | fail) (by first | exact hcFR_σ_4 | assumption | fail | fail) (by first | exact hcCA_σ_4 | assumption | fail | fail) (by first | exact hcTR_σ_4 | assumption | fail | fail) (by omega))
    exact lp41 (_) 0 0 σ_3 (by omega) (by rfl) (by first | exact hvσ_3 | assumption | fail | fail) (by first | exact ht14000_σ_3 | assumption | fail | fail) (by first | exact hcFR_σ_3 | assumption | fail | fail) (by first | exact hcCA_σ_3 | assumption | fail | fail) (by first | exact hcTR_σ_3 | assumption | fail | fail) (Nat.lt_succ_self _)
  ·
    refine g_iconstv h dX11_astray_13 (v := (-1)) (by decide) ?_
    exact g_iret h hQ dX11_astray_14 (congrArg (fun z => some (Value.int z)) (show (an (rg wt (nI 0) (nI 2)) (nI (v_ast μ (toN wt)))) = (-1) by first | exact an_yes (by exact hS0) (by rw [hn, show c = 64 from by omega, ast_64 hI]) | exact an_no (k := (rg wt (nI 0) (nI 2))) (by first | rfl | (simp [fo, rg, ns, nB, ps, gst, ofS, offB, c10]; done) | (simp [fo, rg, ns, nB, ps, gst, ofS, offB, c10]; omega)) (by first | decide | omega | assumption | exact nb1 (by assumption)) | fail)) (by exact ⟨(by first | exact tk_eq (k := (rg wt (nI 0) (nI 2))) (by first | rfl | (simp [fo, rg, ns, nB, ps, gst, ofS, offB, c10]; done) | (simp [fo, rg, ns, nB, ps, gst, ofS, offB, c10]; omega)) ht14000_σ_1 | exact tk_eq (k := (rg wt (nI 0) (nI 2))) (by exact hS0) ht14000_σ_1 | fail), (by exact hcFR_σ_1)⟩)
