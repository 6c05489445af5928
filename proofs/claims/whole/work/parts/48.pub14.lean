/-! notices; the best will -/
def bwS (μ : Nat → Int32) (i : Nat) : Nat → Nat × Nat
  | 0 => (0, 0)
  | n + 1 => if n = 0 ∨ smC (upd μ (16 + i) (nI n)) (nN μ) < (bwS μ i n).2 then (n, smC (upd μ (16 + i) (nI n)) (nN μ)) else bwS μ i n
theorem bwS_lt {μ : Nat → Int32} {i : Nat} (h8 : nN μ ≤ 8) : ∀ n, (bwS μ i (n + 1)).1 < n + 1 ∧ (bwS μ i (n + 1)).2 ≤ 64
  | 0 => by
    have := smC_le (upd μ (16 + i) (nI 0)) (nN μ)
    simp only [bwS]
    rw [if_pos (Or.inl trivial)]
    exact ⟨show 0 < 1 by decide, show smC (upd μ (16 + i) (nI 0)) (nN μ) ≤ 64 by omega⟩
  | n + 1 => by
    obtain ⟨h1, h2⟩ := bwS_lt (μ := μ) (i := i) h8 n
    have := smC_le (upd μ (16 + i) (nI (n + 1))) (nN μ)
    rw [bwS]
    split
    · exact ⟨show n + 1 < n + 1 + 1 by omega, show smC (upd μ (16 + i) (nI (n + 1))) (nN μ) ≤ 64 by omega⟩
    · exact ⟨by omega, h2⟩
theorem wl_mi {μ : Nat → Int32} {i x : Nat} (h : MI μ) (hi : i < 8) (hx : x < 8) : MI (upd μ (16 + i) (nI x)) := mi_upd h (by omega) (by omega) (pw_num (by rw [nb16 hi]; exact hx) (by omega) (by omega))
theorem wl_N {μ : Nat → Int32} {i : Nat} {x : Int32} : nN (upd μ (16 + i) x) = nN μ := nN_upd (by omega)
theorem upd_upd {μ : Nat → Int32} {a : Nat} {x y : Int32} : upd (upd μ a x) a y = upd μ a y := by
  funext q
  unfold upd
  split <;> rfl
theorem upd_id {μ : Nat → Int32} {a : Nat} : upd μ a (μ a) = μ := by
  funext q
  unfold upd
  split
  · rename_i e
    rw [e]
  · rfl
theorem bw_1 {μ : Nat → Int32} {i n : Nat} (h : n = 0 ∨ smC (upd μ (16 + i) (nI n)) (nN μ) < (bwS μ i n).2) : bwS μ i (n + 1) = (n, smC (upd μ (16 + i) (nI n)) (nN μ)) := by
  rw [bwS, if_pos h]
theorem bw_0 {μ : Nat → Int32} {i n : Nat} (h : ¬ (n = 0 ∨ smC (upd μ (16 + i) (nI n)) (nN μ) < (bwS μ i n).2)) : bwS μ i (n + 1) = bwS μ i n := by
  rw [bwS, if_neg h]
/-- the reference's best so far -/
def BW (μ : Nat → Int32) (i n : Nat) (b : Option Nat) (f : Nat) : Prop := (n = 0 ∧ b = none ∧ f = 99) ∨ (0 < n ∧ b = some (bwS μ i n).1 ∧ f = (bwS μ i n).2)
theorem BW.yes {μ : Nat → Int32} {i n f s : Nat} {b : Option Nat} (h : BW μ i n b f) (hs : s = smC (upd μ (16 + i) (nI n)) (nN μ)) (c : s < f) : BW μ i (n + 1) (some n) (min f s) := by
  right
  have e : bwS μ i (n + 1) = (n, smC (upd μ (16 + i) (nI n)) (nN μ)) := by
    apply bw_1
    rcases h with ⟨h1, _⟩ | ⟨_, _, h3⟩
    · exact Or.inl h1
    · right
      omega
  rw [e]
  exact ⟨by omega, rfl, show min f s = smC (upd μ (16 + i) (nI n)) (nN μ) by omega⟩
theorem BW.no {μ : Nat → Int32} {i n f s : Nat} {b : Option Nat} (h8 : nN μ ≤ 8) (h : BW μ i n b f) (hs : s = smC (upd μ (16 + i) (nI n)) (nN μ)) (c : ¬ s < f) : BW μ i (n + 1) b (min f s) := by
  have hl := smC_le (upd μ (16 + i) (nI n)) (nN μ)
  rcases h with ⟨h1, h2, h3⟩ | ⟨h1, h2, h3⟩
  · omega
  · right
    have e : bwS μ i (n + 1) = bwS μ i n := bw_0 (by omega)
    rw [e]
    exact ⟨by omega, h2, by omega⟩
theorem BW.fin {μ : Nat → Int32} {i n f : Nat} {b : Option Nat} (h : BW μ i n b f) (hn : n = 8) : b = some (bwS μ i 8).1 := by
  subst hn
  rcases h with ⟨h1, _⟩ | ⟨_, h2, _⟩
  · cases h1
  · exact h2

set_option maxRecDepth 100000 in
set_option maxHeartbeats 4000000 in
theorem q_notice {l : Launch} {w : Wd} (hW : Wi w) {σ : Mem} (i : Int32) (wt : Int32) (nt : Nat) (g : Nat → Nat → Int32) (μ : Nat → Int32) (hv : vw 0 σ = μ) (hI : MI μ) (hnt : nt < 2 ^ 30) (hcLR_σ : LR 0 σ nt g) : MC l w qX12_notice 1 [.ref (w.1 0), .int i, .int wt] σ (some (.int (an (fo (fo (rg i (nI 0) (nI 15)) (rg wt (nI 0) (nI 3))) (if min nt 16 ≤ toN i then 7 else 0)) (g (toN i) (toN wt))))) (fun σ' => (σ' 4000 = (nI (fo (fo (rg i (nI 0) (nI 15)) (rg wt (nI 0) (nI 3))) (if min nt 16 ≤ toN i then 7 else 0)))) ∧ (∀ a, ((a < 4900 ∨ 6000 ≤ a) ∧ a ≠ 4000) → σ' a = σ a)) := by
  refine MC.of hW (by decide +kernel) (Nat.le_of_ble_eq_true rfl) (fun X h hQ hnm => ?_)
  have h : Fx X w cX12_notice 3 RX12 1 := h
  have hQ : Qx X w (some .int) (some (.int (an (fo (fo (rg i (nI 0) (nI 15)) (rg wt (nI 0) (nI 3))) (if min nt 16 ≤ toN i then 7 else 0)) (g (toN i) (toN wt))))) (fun σ' => (σ' 4000 = (nI (fo (fo (rg i (nI 0) (nI 15)) (rg wt (nI 0) (nI 3))) (if min nt 16 ≤ toN i then 7 else 0)))) ∧ (∀ a, ((a < 4900 ∨ 6000 ≤ a) ∧ a ≠ 4000) → σ' a = σ a)) := hQ
  have hN8 := mi_8 hI
  have hcFR_σ : ∀ a, ((a < 4900 ∨ 6000 ≤ a) ∧ a ≠ 4000) → σ a = σ a := fun _ _ => rfl
  show G X w 3 0 [(0, .ref (w.1 0)), (1, .int i), (2, .int wt)] [] σ
  refine g_iload_n h dX12_notice_0 1 rfl ?_
  refine g_iconst h dX12_notice_1 (by decide) ?_
  refine g_bipush h dX12_notice_2 (by decide) ?_
  refine g_cspi (rest := []) h (r_isFrom hW i (nI 0) (nI 15) ) lX12_isFrom mX12_134 (Nat.lt_of_lt_of_le (by decide) (Nat.le_refl _)) (by decide) rfl rfl rfl dX12_notice_4 ?_
  refine g_ifB_eq h dX12_notice_7 (fun c7 => ?_) (fun c7 => ?_)
  ·
    refine g_aload_n h dX12_notice_19 0 rfl ?_
    refine g_iconst h dX12_notice_20 (by decide) ?_
    refine g_cvi (rest := []) h (r_refuse hW (nI 1) ) lX12_refuse mX12_272 (Nat.lt_of_lt_of_le (by decide) (Nat.le_refl _)) (by decide) sc_0 rfl rfl rfl rfl dX12_notice_21 (fun σ_1 eσ_1 => ?_)
    have eσ_1_a : σ_1 = upd σ 4000 (nI 1) := eσ_1
    have ht4000_σ_1 : σ_1 4000 = (nI 1) := by rw [eσ_1_a]; exact upd_eq
    have hcLR_σ_1 : LR 0 σ_1 nt g := by rw [eσ_1_a]; exact LR.fr hcLR_σ (fun a ha => upd_ne (by first | omega | (simp only [vb] at *; omega)))
    have hcFR_σ_1 : ∀ a, ((a < 4900 ∨ 6000 ≤ a) ∧ a ≠ 4000) → σ_1 a = σ a := by intro a ha; exact Eq.trans (b := σ a) (by rw [eσ_1_a, upd_ne (by first | omega | (simp only [vb] at *; omega))]) (hcFR_σ a ha)
    have hvσ_1 : vw 0 σ_1 = μ := by rw [eσ_1_a, vw_out (by omega)]; first | exact hv | assumption
    exact g_iret h hQ dX12_notice_24 (congrArg (fun z => some (Value.int z)) (show (an (fo (fo (rg i (nI 0) (nI 15)) (rg wt (nI 0) (nI 3))) (if min nt 16 ≤ toN i then 7 else 0)) (g (toN i) (toN wt))) = (-1) by first | exact an_yes (by first | exact (fo_r hA).trans (if_pos (by omega)) | exact (fo_r hA).trans (if_neg (by omega)) | (simp [fo, rg, c7]; done) | (simp [fo, rg, c7, c16]; done) | fail) (by rfl) | exact an_no (k := 1) (by first | exact (fo_r hA).trans (if_pos (by omega)) | exact (fo_r hA).trans (if_neg (by omega)) | (simp [fo, rg, c7]; done) | (simp [fo, rg, c7, c16]; done) | fail) (by first | decide | omega | assumption | exact nb1 (by assumption)) | fail)) (by exact ⟨(by first | exact tk_eq (k := 1) (by first | exact (fo_r hA).trans (if_pos (by omega)) | exact (fo_r hA).trans (if_neg (by omega)) | (simp [fo, rg, c7]; done) | (simp [fo, rg, c7, c16]; done) | fail) ht4000_σ_1 | exact tk_eq (k := 1) (by first | exact (fo_r hA).trans (if_pos (by omega)) | exact (fo_r hA).trans (if_neg (by omega)) | (simp [fo, rg, c7]; done) | (simp [fo, rg, c7, c16]; done) | fail) ht4000_σ_1 | fail), (by exact hcFR_σ_1)⟩)
  ·
    refine g_iload_n h dX12_notice_10 2 rfl ?_
    refine g_iconst h dX12_notice_11 (by decide) ?_
    refine g_iconst h dX12_notice_12 (by decide) ?_
    refine g_cspi (rest := []) h (r_isFrom hW wt (nI 0) (nI 3) ) lX12_isFrom mX12_134 (Nat.lt_of_lt_of_le (by decide) (Nat.le_refl _)) (by decide) rfl rfl rfl dX12_notice_13 ?_
    refine g_ifB_ne h dX12_notice_16 (fun c16 => ?_) (fun c16 => ?_)
    ·
      obtain ⟨ei, hi9⟩ := fr_N (by decide) c7
      obtain ⟨ew, hw9⟩ := fr_N (by decide) c16
      have hA : fo (rg i (nI 0) (nI 15)) (rg wt (nI 0) (nI 3)) = 0 := by simp [fo, rg, c7, c16]
      rw [ei, ew]
      show G X w 3 25 [(0, .ref (w.1 0)), (1, .int (nI (toN i))), (2, .int (nI (toN wt)))] [] σ
      refine g_iload_n h dX12_notice_25 1 rfl ?_
      refine g_aload_n h dX12_notice_26 0 rfl ?_
      refine g_bipush h dX12_notice_27 (by decide) ?_
      refine g_cvpi (rest := [.int (nI (toN i))]) h (r_ofr hW 10 (by omega)) lX12_of mX12_61 (Nat.lt_of_lt_of_le (by decide) (Nat.le_refl _)) (by decide) sc_0 rfl rfl rfl rfl dX12_notice_29 ?_
      refine g_top (y := (nI (min nt 16))) hcLR_σ.1 ?_
      refine g_icmpN_ge h dX12_notice_32 (by omega) (by omega) (fun c32 => ?_) (fun c32 => ?_)
      ·
        refine g_aload_n h dX12_notice_64 0 rfl ?_
        refine g_bipush h dX12_notice_65 (by decide) ?_
        refine g_cvi (rest := []) h (r_refuse hW (nI 7) ) lX12_refuse mX12_272 (Nat.lt_of_lt_of_le (by decide) (Nat.le_refl _)) (by decide) sc_0 rfl rfl rfl rfl dX12_notice_67 (fun σ_2 eσ_2 => ?_)
        have eσ_2_a : σ_2 = upd σ 4000 (nI 7) := eσ_2
        have ht4000_σ_2 : σ_2 4000 = (nI 7) := by rw [eσ_2_a]; exact upd_eq
        have hcLR_σ_2 : LR 0 σ_2 nt g := by rw [eσ_2_a]; exact LR.fr hcLR_σ (fun a ha => upd_ne (by first | omega | (simp only [vb] at *; omega)))
        have hcFR_σ_2 : ∀ a, ((a < 4900 ∨ 6000 ≤ a) ∧ a ≠ 4000) → σ_2 a = σ a := by intro a ha; exact Eq.trans (b := σ a) (by rw [eσ_2_a, upd_ne (by first | omega | (simp only [vb] at *; omega))]) (hcFR_σ a ha)
        have hvσ_2 : vw 0 σ_2 = μ := by rw [eσ_2_a, vw_out (by omega)]; first | exact hv | assumption
        exact g_iret h hQ dX12_notice_70 (congrArg (fun z => some (Value.int z)) (show (an (fo (fo (rg i (nI 0) (nI 15)) (rg wt (nI 0) (nI 3))) (if min nt 16 ≤ toN i then 7 else 0)) (g (toN i) (toN wt))) = (-1) by first | exact an_yes (by first | exact (fo_r hA).trans (if_pos (by omega)) | exact (fo_r hA).trans (if_neg (by omega)) | (simp [fo, rg, c7]; done) | (simp [fo, rg, c7, c16]; done) | fail) (by rfl) | exact an_no (k := 7) (by first | exact (fo_r hA).trans (if_pos (by omega)) | exact (fo_r hA).trans (if_neg (by omega)) | (simp [fo, rg, c7]; done) | (simp [fo, rg, c7, c16]; done) | fail) (by first | decide | omega | assumption | exact nb1 (by assumption)) | fail)) (by exact ⟨(by first | exact tk_eq (k := 7) (by first | exact (fo_r hA).trans (if_pos (by omega)) | exact (fo_r hA).trans (if_neg (by omega)) | (simp [fo, rg, c7]; done) | (simp [fo, rg, c7, c16]; done) | fail) ht4000_σ_2 | exact tk_eq (k := 7) (by first | exact (fo_r hA).trans (if_pos (by omega)) | exact (fo_r hA).trans (if_neg (by omega)) | (simp [fo, rg, c7]; done) | (simp [fo, rg, c7, c16]; done) | fail) ht4000_σ_2 | fail), (by exact hcFR_σ_2)⟩)
      ·
        refine g_aload_n h dX12_notice_35 0 rfl ?_
        refine g_aload_n h dX12_notice_36 0 rfl ?_
        refine g_sipush h dX12_notice_37 (by decide) ?_
        refine g_iconst h dX12_notice_40 (by decide) ?_
        refine g_aload_n h dX12_notice_41 0 rfl ?_
        refine g_bipush h dX12_notice_42 (by decide) ?_
        refine g_cvpi (rest := [.int (nI 4), .int (nI 464), .ref (w.1 0), .ref (w.1 0)]) h (r_ofr hW 10 (by omega)) lX12_of mX12_61 (Nat.lt_of_lt_of_le (by decide) (Nat.le_refl _)) (by decide) sc_0 rfl rfl rfl rfl dX12_notice_44 ?_
        refine g_top (y := (nI (min nt 16))) hcLR_σ.1 ?_
        refine g_iconst h dX12_notice_47 (by decide) ?_
        refine g_isubN h dX12_notice_48 (by omega) ?_
        refine g_iload_n h dX12_notice_49 1 rfl ?_
        refine g_isubN h dX12_notice_50 (by omega) ?_
        refine g_imulN h dX12_notice_51  ?_
        refine g_iaddN h dX12_notice_52  ?_
        refine g_iload_n h dX12_notice_53 2 rfl ?_
        refine g_iaddN h dX12_notice_54  ?_
        refine g_cvpi (rest := [.ref (w.1 0)]) h (r_ofr hW (464 + 4 * (((min nt 16) - 1) - (toN i)) + toN wt) (by omega)) lX12_of mX12_61 (Nat.lt_of_lt_of_le (by decide) (Nat.le_refl _)) (by decide) sc_0 rfl rfl rfl rfl dX12_notice_55 ?_
        refine g_top (y := (g (toN i) (toN wt))) (Eq.trans (congrArg σ (by omega)) (hcLR_σ.2 (toN i) (toN wt) (by omega) (by omega))) ?_
        refine g_cvi (rest := []) h (r_gives hW (g (toN i) (toN wt)) ) lX12_gives mX12_281 (Nat.lt_of_lt_of_le (by decide) (Nat.le_refl _)) (by decide) sc_0 rfl rfl rfl rfl dX12_notice_58 (fun σ_3 eσ_3 => ?_)
        have eσ_3_a : σ_3 = upd σ 4000 (nI 0) := eσ_3
        have ht4000_σ_3 : σ_3 4000 = (nI 0) := by rw [eσ_3_a]; exact upd_eq
        have hcLR_σ_3 : LR 0 σ_3 nt g := by rw [eσ_3_a]; exact LR.fr hcLR_σ (fun a ha => upd_ne (by first | omega | (simp only [vb] at *; omega)))
        have hcFR_σ_3 : ∀ a, ((a < 4900 ∨ 6000 ≤ a) ∧ a ≠ 4000) → σ_3 a = σ a := by intro a ha; exact Eq.trans (b := σ a) (by rw [eσ_3_a, upd_ne (by first | omega | (simp only [vb] at *; omega))]) (hcFR_σ a ha)
        have hvσ_3 : vw 0 σ_3 = μ := by rw [eσ_3_a, vw_out (by omega)]; first | exact hv | assumption
        refine g_goto h dX12_notice_61 ?_
        exact g_iret h hQ dX12_notice_70 (congrArg (fun z => some (Value.int z)) (show (an (fo (fo (rg i (nI 0) (nI 15)) (rg wt (nI 0) (nI 3))) (if min nt 16 ≤ toN i then 7 else 0)) (g (toN i) (toN wt))) = (g (toN i) (toN wt)) by first | exact an_yes (by first | exact (fo_r hA).trans (if_pos (by omega)) | exact (fo_r hA).trans (if_neg (by omega)) | (simp [fo, rg, c7]; done) | (simp [fo, rg, c7, c16]; done) | fail) (by rfl) | exact an_no (k := 0) (by first | exact (fo_r hA).trans (if_pos (by omega)) | exact (fo_r hA).trans (if_neg (by omega)) | (simp [fo, rg, c7]; done) | (simp [fo, rg, c7, c16]; done) | fail) (by first | decide | omega | assumption | exact nb1 (by assumption)) | fail)) (by exact ⟨(by first | exact tk_eq (k := 0) (by first | exact (fo_r hA).trans (if_pos (by omega)) | exact (fo_r hA).trans (if_neg (by omega)) | (simp [fo, rg, c7]; done) | (simp [fo, rg, c7, c16]; done) | fail) ht4000_σ_3 | exact tk_eq (k := 0) (by first | exact (fo_r hA).trans (if_pos (by omega)) | exact (fo_r hA).trans (if_neg (by omega)) | (simp [fo, rg, c7]; done) | (simp [fo, rg, c7, c16]; done) | fail) ht4000_σ_3 | fail), (by exact hcFR_σ_3)⟩)
    ·
      refine g_aload_n h dX12_notice_19 0 rfl ?_
      refine g_iconst h dX12_notice_20 (by decide) ?_
      refine g_cvi (rest := []) h (r_refuse hW (nI 1) ) lX12_refuse mX12_272 (Nat.lt_of_lt_of_le (by decide) (Nat.le_refl _)) (by decide) sc_0 rfl rfl rfl rfl dX12_notice_21 (fun σ_4 eσ_4 => ?_)
      have eσ_4_a : σ_4 = upd σ 4000 (nI 1) := eσ_4
      have ht4000_σ_4 : σ_4 4000 = (nI 1) := by rw [eσ_4_a]; exact upd_eq
      have hcLR_σ_4 : LR 0 σ_4 nt g := by rw [eσ_4_a]; exact LR.fr hcLR_σ (fun a ha => upd_ne (by first | omega | (simp only [vb] at *; omega)))
      have hcFR_σ_4 : ∀ a, ((a < 4900 ∨ 6000 ≤ a) ∧ a ≠ 4000) → σ_4 a = σ a := by intro a ha; exact Eq.trans (b := σ a) (by rw [eσ_4_a, upd_ne (by first | omega | (simp only [vb] at *; omega))]) (hcFR_σ a ha)
      have hvσ_4 : vw 0 σ_4 = μ := by rw [eσ_4_a, vw_out (by omega)]; first | exact hv | assumption
      exact g_iret h hQ dX12_notice_24 (congrArg (fun z => some (Value.int z)) (show (an (fo (fo (rg i (nI 0) (nI 15)) (rg wt (nI 0) (nI 3))) (if min nt 16 ≤ toN i then 7 else 0)) (g (toN i) (toN wt))) = (-1) by first | exact an_yes (by first | exact (fo_r hA).trans (if_pos (by omega)) | exact (fo_r hA).trans (if_neg (by omega)) | (simp [fo, rg, c7]; done) | (simp [fo, rg, c7, c16]; done) | fail) (by rfl) | exact an_no (k := 1) (by first | exact (fo_r hA).trans (if_pos (by omega)) | exact (fo_r hA).trans (if_neg (by omega)) | (simp [fo, rg, c7]; done) | (simp [fo, rg, c7, c16]; done) | fail) (by first | decide | omega | assumption | exact nb1 (by assumption)) | fail)) (by exact ⟨(by first | exact tk_eq (k := 1) (by first | exact (fo_r hA).trans (if_pos (by omega)) | exact (fo_r hA).trans (if_neg (by omega)) | (simp [fo, rg, c7]; done) | (simp [fo, rg, c7, c16]; done) | fail) ht4000_σ_4 | exact tk_eq (k := 1) (by first | exact (fo_r hA).trans (if_pos (by omega)) | exact (fo_r hA).trans (if_neg (by omega)) | (simp [fo, rg, c7]; done) | (simp [fo, rg, c7, c16]; done) | fail) ht4000_σ_4 | fail), (by exact hcFR_σ_4)⟩)

set_option maxRecDepth 100000 in
set_option maxHeartbeats 4000000 in
theorem j_fm {l : Launch} {w : Wd} (hW : Wi w) {σ : Mem} (a : Nat) (ha : a < 2 ^ 30) : MC l w qJ9_floorMod_7cf53 0 [.int (nI a), .int (nI 16)] σ (some (.int (nI (a % 16)))) (fun σ' => σ' = σ) := by
  refine MC.ofF hW (by decide +kernel) (Nat.le_of_ble_eq_true rfl) (fun X h hQ hnm => ?_)
  have h : Fx X w cJ9_floorMod_7cf53 3 RJ9 0 := h
  have hQ : Qx X w (some .int) (some (.int (nI (a % 16)))) (fun σ' => σ' = σ) := hQ
  show G X w 3 0 [(0, .int (nI a)), (1, .int (nI 16))] [] σ
  refine g_iload_n h dJ9_floorMod_7cf53_0 0 rfl ?_
  refine g_iload_n h dJ9_floorMod_7cf53_1 1 rfl ?_
  refine g_iremN h dJ9_floorMod_7cf53_2 (by omega) (by omega) (by omega) ?_
  refine g_istore_n (L' := [(0, .int (nI a)), (1, .int (nI 16)), (2, .int (nI (a % 16)))]) h dJ9_floorMod_7cf53_3 rfl (by decide) rfl ?_
  refine g_iload_n h dJ9_floorMod_7cf53_4 0 rfl ?_
  refine g_iload_n h dJ9_floorMod_7cf53_5 1 rfl ?_
  refine g_ixor h dJ9_floorMod_7cf53_6  ?_
  refine g_if_ge h dJ9_floorMod_7cf53_7 (fun c7 => ?_) (fun c7 => ?_)
  ·
    refine g_iload_n h dJ9_floorMod_7cf53_18 2 rfl ?_
    exact g_iret h hQ dJ9_floorMod_7cf53_19 rfl rfl
  ·
    exact absurd (Int32.not_le.mp c7) (xor_nn (by omega) (by decide))

set_option maxRecDepth 100000 in
set_option maxHeartbeats 4000000 in
theorem c_written {l : Launch} {w : Wd} (hW : Wi w) {σ : Mem} (i wt nt : Nat) (g : Nat → Nat → Int32) (m : Nat) (μ : Nat → Int32) (hm : m < 6) (hv : vw (vb m) σ = μ) (hI : MI μ) (h7 : μ 7 = nI nt) (hi : i < min nt 16) (hwt : wt < 4) (hnt : nt < 2 ^ 30) (hcLC_σ : LC (vb m) σ nt g) : MC l w qX6_written 1 [.ref (w.1 (mc m 11)), .int (nI i), .int (nI wt)] σ (some (.int (g i wt))) (fun σ' => σ' = σ) := by
  refine MC.of hW (by decide +kernel) (Nat.le_of_ble_eq_true rfl) (fun X h hQ hnm => ?_)
  have h : Fx X w cX6_written 4 RX6 1 := h
  have hQ : Qx X w (some .int) (some (.int (g i wt))) (fun σ' => σ' = σ) := hQ
  show G X w 4 0 [(0, .ref (w.1 (mc m 11))), (1, .int (nI i)), (2, .int (nI wt))] [] σ
  refine g_aload_n h dX6_written_0 0 rfl ?_
  refine g_geti h dX6_written_1 gX6_36 (sM_11 (m := m) (by omega)) rfl ?_
  refine g_top (y := μ 7) (vw_pic (b := (vb m)) (k := 7) (by first | exact hv | assumption) (by omega)) ?_
  refine g_top (y := (nI nt)) h7 ?_
  refine g_iconst h dX6_written_4 (by decide) ?_
  refine g_isubN h dX6_written_5 (by omega) ?_
  refine g_iload_n h dX6_written_6 1 rfl ?_
  refine g_isubN h dX6_written_7 (by omega) ?_
  refine g_bipush h dX6_written_8 (by decide) ?_
  refine g_cspi (rest := []) h (j_fm hW ((nt - 1) - i) (by omega)) lJ9_floorMod_7cf53 mX6_67 (Nat.lt_of_lt_of_le (by decide) (Nat.le_refl _)) (by decide) rfl rfl rfl dX6_written_10 ?_
  refine g_iconst h dX6_written_13 (by decide) ?_
  refine g_imulN h dX6_written_14  ?_
  refine g_istore_n (L' := [(0, .ref (w.1 (mc m 11))), (1, .int (nI i)), (2, .int (nI wt)), (3, .int (nI ((((nt - 1) - i) % 16) * 4)))]) h dX6_written_15 rfl (by decide) rfl ?_
  refine g_aload_n h dX6_written_16 0 rfl ?_
  refine g_getr h dX6_written_17 gX6_27 (sM_11 (m := m) (by omega)) rfl ?_
  refine g_iload_n h dX6_written_20 3 rfl ?_
  refine g_iload_n h dX6_written_21 2 rfl ?_
  refine g_iaddN h dX6_written_22  ?_
  refine g_iald h dX6_written_23 (sM_17 (m := m) (by omega)) (by omega) ?_
  refine g_top (y := (g i wt)) (Eq.trans (congrArg σ (by omega)) (hcLC_σ i wt (by omega) (by omega))) ?_
  exact g_iret h hQ dX6_written_24 rfl rfl

set_option maxRecDepth 100000 in
set_option maxHeartbeats 4000000 in
theorem p_notice {l : Launch} {w : Wd} (hW : Wi w) {σ : Mem} (i : Int32) (wt : Int32) (nt : Nat) (g : Nat → Nat → Int32) (μ : Nat → Int32) (hv : vw (vb 0) σ = μ) (hI : MI μ) (h7 : μ 7 = nI nt) (hnt : nt < 2 ^ 30) (hcLC_σ : LC (vb 0) σ nt g) : MC l w qX11_notice 2 [.ref (w.1 12), .int i, .int wt] σ (some (.int (an (fo (fo (rg i (nI 0) (nI 15)) (rg wt (nI 0) (nI 3))) (if min nt 16 ≤ toN i then 7 else 0)) (g (toN i) (toN wt))))) (fun σ' => (σ' 14000 = (nI (fo (fo (rg i (nI 0) (nI 15)) (rg wt (nI 0) (nI 3))) (if min nt 16 ≤ toN i then 7 else 0)))) ∧ (∀ a, (a < 14900 ∧ a ≠ 14000) → σ' a = σ a)) := by
  refine MC.of hW (by decide +kernel) (Nat.le_of_ble_eq_true rfl) (fun X h hQ hnm => ?_)
  have h : Fx X w cX11_notice 3 RX11 2 := h
  have hQ : Qx X w (some .int) (some (.int (an (fo (fo (rg i (nI 0) (nI 15)) (rg wt (nI 0) (nI 3))) (if min nt 16 ≤ toN i then 7 else 0)) (g (toN i) (toN wt))))) (fun σ' => (σ' 14000 = (nI (fo (fo (rg i (nI 0) (nI 15)) (rg wt (nI 0) (nI 3))) (if min nt 16 ≤ toN i then 7 else 0)))) ∧ (∀ a, (a < 14900 ∧ a ≠ 14000) → σ' a = σ a)) := hQ
  have hN8 := mi_8 hI
  have hcFR_σ : ∀ a, (a < 14900 ∧ a ≠ 14000) → σ a = σ a := fun _ _ => rfl
  show G X w 3 0 [(0, .ref (w.1 12)), (1, .int i), (2, .int wt)] [] σ
  refine g_aload_n h dX11_notice_0 0 rfl ?_
  refine g_iload_n h dX11_notice_1 1 rfl ?_
  refine g_iconst h dX11_notice_2 (by decide) ?_
  refine g_bipush h dX11_notice_3 (by decide) ?_
  refine g_cspi (rest := [.ref (w.1 12)]) h (c_rg hW i (nI 0) (nI 15) ) lX11_rangeStatus mX11_102 (Nat.lt_of_lt_of_le (by decide) (Nat.le_refl _)) (by decide) rfl rfl rfl dX11_notice_5 ?_
  refine g_iload_n h dX11_notice_8 2 rfl ?_
  refine g_iconst h dX11_notice_9 (by decide) ?_
  refine g_iconst h dX11_notice_10 (by decide) ?_
  refine g_cspi (rest := [.int (nI (rg i (nI 0) (nI 15))), .ref (w.1 12)]) h (c_rg hW wt (nI 0) (nI 3) ) lX11_rangeStatus mX11_102 (Nat.lt_of_lt_of_le (by decide) (Nat.le_refl _)) (by decide) rfl rfl rfl dX11_notice_11 ?_
  refine g_cspi (rest := [.ref (w.1 12)]) h (c_fo hW (rg i (nI 0) (nI 15)) (rg wt (nI 0) (nI 3)) (by repeat (first | omega | exact rg_lt | exact ns_lt | exact ps_lt | exact gst_lt | exact ofS_lt | exact if_lt (by decide) (by decide) | apply fo_lt)) (by repeat (first | omega | exact rg_lt | exact ns_lt | exact ps_lt | exact gst_lt | exact ofS_lt | exact if_lt (by decide) (by decide) | apply fo_lt))) lX11_firstOf mX11_163 (Nat.lt_of_lt_of_le (by decide) (Nat.le_refl _)) (by decide) rfl rfl rfl dX11_notice_14 ?_
  refine g_cvi (rest := []) h (c_fails hW (fo (rg i (nI 0) (nI 15)) (rg wt (nI 0) (nI 3))) (by repeat (first | omega | exact rg_lt | exact ns_lt | exact ps_lt | exact gst_lt | exact ofS_lt | exact if_lt (by decide) (by decide) | apply fo_lt))) lX11_fails mX11_106 (Nat.lt_of_lt_of_le (by decide) (Nat.le_refl _)) (by decide) sc_12 rfl rfl rfl rfl dX11_notice_17 (fun σ_1 eσ_1 => ?_)
  obtain ⟨eσ_1_a, eσ_1_b⟩ := eσ_1
  have eσ_1_a : σ_1 14000 = (nI (fo (rg i (nI 0) (nI 15)) (rg wt (nI 0) (nI 3)))) := eσ_1_a
  have eσ_1_b : ∀ a, (a ≠ 14000) → σ_1 a = σ a := eσ_1_b
  have ht14000_σ_1 : σ_1 14000 = (nI (fo (rg i (nI 0) (nI 15)) (rg wt (nI 0) (nI 3)))) := eσ_1_a
  have hcLC_σ_1 : LC (vb 0) σ_1 nt g := by exact LC.fr hcLC_σ (fun a ha hb => eσ_1_b a (by first | omega | (simp only [vb] at *; omega)))
  have hcFR_σ_1 : ∀ a, (a < 14900 ∧ a ≠ 14000) → σ_1 a = σ a := by intro a ha; exact Eq.trans (b := σ a) (eσ_1_b a (by first | omega | (simp only [vb] at *; omega))) (hcFR_σ a ha)
  have hvσ_1 : vw (vb 0) σ_1 = μ := by rw [vw_fr (σ := σ) (fun j _ _ => eσ_1_b _ (by first | omega | (simp only [vb] at *; omega)))]; first | exact hv | assumption
  refine g_ifB_eq h dX11_notice_20 (fun c20 => ?_) (fun c20 => ?_)
  ·
    have hA := nb0 c20
    obtain ⟨hs1, hs2⟩ := fo_0 hA
    obtain ⟨ei, hi9⟩ := rg_N (by decide) hs1
    obtain ⟨ew, hw9⟩ := rg_N (by decide) hs2
    rw [ei, ew]
    show G X w 3 25 [(0, .ref (w.1 12)), (1, .int (nI (toN i))), (2, .int (nI (toN wt)))] [] σ_1
    refine g_aload_n h dX11_notice_25 0 rfl ?_
    refine g_iload_n h dX11_notice_26 1 rfl ?_
    refine g_aload_n h dX11_notice_27 0 rfl ?_
    refine g_getr h dX11_notice_28 gX11_23 sc_12 rfl ?_
    refine g_getr h dX11_notice_31 gX11_135 (sM_0 (m := 0) (by decide)) rfl ?_
    refine g_geti h dX11_notice_34 gX11_139 (sM_11 (m := 0) (by decide)) rfl ?_
    refine g_top (y := μ 7) (vw_pic (b := (vb 0)) (k := 7) (by first | exact hvσ_1 | assumption) (by omega)) ?_
    refine g_top (y := (nI nt)) h7 ?_
    refine g_icmpN_lt h dX11_notice_37 (by omega) (by omega) (fun c37 => ?_) (fun c37 => ?_)
    ·
      refine g_iconst h dX11_notice_45 (by decide) ?_
      refine g_cvi (rest := []) h (c_fails hW 0 (by repeat (first | omega | exact rg_lt | exact ns_lt | exact ps_lt | exact gst_lt | exact ofS_lt | exact if_lt (by decide) (by decide) | apply fo_lt))) lX11_fails mX11_106 (Nat.lt_of_lt_of_le (by decide) (Nat.le_refl _)) (by decide) sc_12 rfl rfl rfl rfl dX11_notice_46 (fun σ_2 eσ_2 => ?_)
      obtain ⟨eσ_2_a, eσ_2_b⟩ := eσ_2
      have eσ_2_a : σ_2 14000 = (nI 0) := eσ_2_a
      have eσ_2_b : ∀ a, (a ≠ 14000) → σ_2 a = σ_1 a := eσ_2_b
      have ht14000_σ_2 : σ_2 14000 = (nI 0) := eσ_2_a
      have hcLC_σ_2 : LC (vb 0) σ_2 nt g := by exact LC.fr hcLC_σ_1 (fun a ha hb => eσ_2_b a (by first | omega | (simp only [vb] at *; omega)))
      have hcFR_σ_2 : ∀ a, (a < 14900 ∧ a ≠ 14000) → σ_2 a = σ a := by intro a ha; exact Eq.trans (b := σ_1 a) (eσ_2_b a (by first | omega | (simp only [vb] at *; omega))) (hcFR_σ_1 a ha)
      have hvσ_2 : vw (vb 0) σ_2 = μ := by rw [vw_fr (σ := σ_1) (fun j _ _ => eσ_2_b _ (by first | omega | (simp only [vb] at *; omega)))]; first | exact hvσ_1 | assumption
      refine g_top (y := nI 0) rfl ?_
      refine g_ifN_eq h dX11_notice_49 (by decide) (fun c49 => ?_) (fun c49 => absurd c49 (by decide))
      refine g_aload_n h dX11_notice_56 0 rfl ?_
      refine g_getr h dX11_notice_57 gX11_23 sc_12 rfl ?_
      refine g_getr h dX11_notice_60 gX11_135 (sM_0 (m := 0) (by decide)) rfl ?_
      refine g_iload_n h dX11_notice_63 1 rfl ?_
      refine g_iload_n h dX11_notice_64 2 rfl ?_
      refine g_cvpi (rest := []) h (c_written hW (toN i) (toN wt) nt g 0 μ (by first | omega | decide | fail) (by first | exact hvσ_2 | assumption | fail) (by assumption) (by omega) (by omega) (by omega) (by omega) (by first | exact hcLC_σ_2 | assumption | fail)) lX6_written mX11_363 (Nat.lt_of_lt_of_le (by decide) (Nat.le_refl _)) (by decide) (sM_11 (m := 0) (by decide)) rfl rfl rfl rfl dX11_notice_65 ?_
      exact g_iret h hQ dX11_notice_68 (congrArg (fun z => some (Value.int z)) (show (an (fo (fo (rg i (nI 0) (nI 15)) (rg wt (nI 0) (nI 3))) (if min nt 16 ≤ toN i then 7 else 0)) (g (toN i) (toN wt))) = (g (toN i) (toN wt)) by first | exact an_yes (by first | exact (fo_r hA).trans (if_pos (by omega)) | exact (fo_r hA).trans (if_neg (by omega)) | exact fo_l (nb1 c20) | fail) (by rfl) | exact an_no (k := 0) (by first | exact (fo_r hA).trans (if_pos (by omega)) | exact (fo_r hA).trans (if_neg (by omega)) | exact fo_l (nb1 c20) | fail) (by first | decide | omega | assumption | exact nb1 (by assumption)) | fail)) (by exact ⟨(by first | exact tk_eq (k := 0) (by first | exact (fo_r hA).trans (if_pos (by omega)) | exact (fo_r hA).trans (if_neg (by omega)) | exact fo_l (nb1 c20) | fail) ht14000_σ_2 | exact tk_eq (k := 0) (by first | exact (fo_r hA).trans (if_pos (by omega)) | exact (fo_r hA).trans (if_neg (by omega)) | exact fo_l (nb1 c20) | fail) ht14000_σ_2 | fail), (by exact hcFR_σ_2)⟩)
    ·
      refine g_bipush h dX11_notice_40 (by decide) ?_
      refine g_goto h dX11_notice_42 ?_
      refine g_cvi (rest := []) h (c_fails hW 7 (by repeat (first | omega | exact rg_lt | exact ns_lt | exact ps_lt | exact gst_lt | exact ofS_lt | exact if_lt (by decide) (by decide) | apply fo_lt))) lX11_fails mX11_106 (Nat.lt_of_lt_of_le (by decide) (Nat.le_refl _)) (by decide) sc_12 rfl rfl rfl rfl dX11_notice_46 (fun σ_3 eσ_3 => ?_)
      obtain ⟨eσ_3_a, eσ_3_b⟩ := eσ_3
      have eσ_3_a : σ_3 14000 = (nI 7) := eσ_3_a
      have eσ_3_b : ∀ a, (a ≠ 14000) → σ_3 a = σ_1 a := eσ_3_b
      have ht14000_σ_3 : σ_3 14000 = (nI 7) := eσ_3_a
      have hcLC_σ_3 : LC (vb 0) σ_3 nt g := by exact LC.fr hcLC_σ_1 (fun a ha hb => eσ_3_b a (by first | omega | (simp only [vb] at *; omega)))
      have hcFR_σ_3 : ∀ a, (a < 14900 ∧ a ≠ 14000) → σ_3 a = σ a := by intro a ha; exact Eq.trans (b := σ_1 a) (eσ_3_b a (by first | omega | (simp only [vb] at *; omega))) (hcFR_σ_1 a ha)
      have hvσ_3 : vw (vb 0) σ_3 = μ := by rw [vw_fr (σ := σ_1) (fun j _ _ => eσ_3_b _ (by first | omega | (simp only [vb] at *; omega)))]; first | exact hvσ_1 | assumption
      refine g_top (y := nI 1) rfl ?_
      refine g_ifN_eq h dX11_notice_49 (by decide) (fun c49 => absurd c49 (by decide)) (fun c49 => ?_)
      refine g_iconstv h dX11_notice_52 (v := (-1)) (by decide) ?_
      refine g_goto h dX11_notice_53 ?_
      exact g_iret h hQ dX11_notice_68 (congrArg (fun z => some (Value.int z)) (show (an (fo (fo (rg i (nI 0) (nI 15)) (rg wt (nI 0) (nI 3))) (if min nt 16 ≤ toN i then 7 else 0)) (g (toN i) (toN wt))) = (-1) by first | exact an_yes (by first | exact (fo_r hA).trans (if_pos (by omega)) | exact (fo_r hA).trans (if_neg (by omega)) | exact fo_l (nb1 c20) | fail) (by rfl) | exact an_no (k := 7) (by first | exact (fo_r hA).trans (if_pos (by omega)) | exact (fo_r hA).trans (if_neg (by omega)) | exact fo_l (nb1 c20) | fail) (by first | decide | omega | assumption | exact nb1 (by assumption)) | fail)) (by exact ⟨(by first | exact tk_eq (k := 7) (by first | exact (fo_r hA).trans (if_pos (by omega)) | exact (fo_r hA).trans (if_neg (by omega)) | exact fo_l (nb1 c20) | fail) ht14000_σ_3 | exact tk_eq (k := 7) (by first | exact (fo_r hA).trans (if_pos (by omega)) | exact (fo_r hA).trans (if_neg (by omega)) | exact fo_l (nb1 c20) | fail) ht14000_σ_3 | fail), (by exact hcFR_σ_3)⟩)
  ·
    refine g_iconstv h dX11_notice_23 (v := (-1)) (by decide) ?_
    exact g_iret h hQ dX11_notice_24 (congrArg (fun z => some (Value.int z)) (show (an (fo (fo (rg i (nI 0) (nI 15)) (rg wt (nI 0) (nI 3))) (if min nt 16 ≤ toN i then 7 else 0)) (g (toN i) (toN wt))) = (-1) by first | exact an_yes (by first | exact (fo_r hA).trans (if_pos (by omega)) | exact (fo_r hA).trans (if_neg (by omega)) | exact fo_l (nb1 c20) | fail) (by rfl) | exact an_no (k := (fo (rg i (nI 0) (nI 15)) (rg wt (nI 0) (nI 3)))) (by first | exact (fo_r hA).trans (if_pos (by omega)) | exact (fo_r hA).trans (if_neg (by omega)) | exact fo_l (nb1 c20) | fail) (by first | decide | omega | assumption | exact nb1 (by assumption)) | fail)) (by exact ⟨(by first | exact tk_eq (k := (fo (rg i (nI 0) (nI 15)) (rg wt (nI 0) (nI 3)))) (by first | exact (fo_r hA).trans (if_pos (by omega)) | exact (fo_r hA).trans (if_neg (by omega)) | exact fo_l (nb1 c20) | fail) ht14000_σ_1 | exact tk_eq (k := (fo (rg i (nI 0) (nI 15)) (rg wt (nI 0) (nI 3)))) (by first | exact (fo_r hA).trans (if_pos (by omega)) | exact (fo_r hA).trans (if_neg (by omega)) | exact fo_l (nb1 c20) | fail) ht14000_σ_1 | fail), (by exact hcFR_σ_1)⟩)

set_option maxRecDepth 100000 in
set_option maxHeartbeats 4000000 in
theorem q_bestWill {l : Launch} {w : Wd} (hW : Wi w) {σ : Mem} (i : Int32) (μ : Nat → Int32) (hv : vw 0 σ = μ) (hI : MI μ) : MC l w qX12_bestWill 5 [.ref (w.1 0), .int i] σ (some (.int (an (ns μ i) (nI (bwS μ (toN i) 8).1)))) (fun σ' => (vw 0 σ' = μ) ∧ (σ' 4000 = (nI (ns μ i))) ∧ (∀ a, (464 ≤ a ∧ (a < 4900 ∨ 6000 ≤ a) ∧ a ≠ 4000 ∨ a = 10) → σ' a = σ a)) := by
  refine MC.of hW (by decide +kernel) (Nat.le_of_ble_eq_true rfl) (fun X h hQ hnm => ?_)
  have h : Fx X w cX12_bestWill 8 RX12 5 := h
  have hQ : Qx X w (some .int) (some (.int (an (ns μ i) (nI (bwS μ (toN i) 8).1)))) (fun σ' => (vw 0 σ' = μ) ∧ (σ' 4000 = (nI (ns μ i))) ∧ (∀ a, (464 ≤ a ∧ (a < 4900 ∨ 6000 ≤ a) ∧ a ≠ 4000 ∨ a = 10) → σ' a = σ a)) := hQ
  have hN8 := mi_8 hI
  have hcFR_σ : ∀ a, (464 ≤ a ∧ (a < 4900 ∨ 6000 ≤ a) ∧ a ≠ 4000 ∨ a = 10) → σ a = σ a := fun _ _ => rfl
  show G X w 8 0 [(0, .ref (w.1 0)), (1, .int i)] [] σ
  refine g_aload_n h dX12_bestWill_0 0 rfl ?_
  refine g_iload_n h dX12_bestWill_1 1 rfl ?_
  refine g_cvpi (rest := []) h (r_isNode hW i μ (by first | exact hv | assumption | fail)) lX12_isNode mX12_287 (Nat.lt_of_lt_of_le (by decide) (Nat.le_refl _)) (by decide) sc_0 rfl rfl rfl rfl dX12_bestWill_2 ?_
  refine g_ifB_ne h dX12_bestWill_5 (fun c5 => ?_) (fun c5 => ?_)
  ·
    have hns : ns μ i = 0 := by unfold ns; rw [if_pos (show nB μ i = true from c5)]
    obtain ⟨ei, hi9⟩ := nB_N hI (show nB μ i = true from c5)
    rw [ei]
    show G X w 8 14 [(0, .ref (w.1 0)), (1, .int (nI (toN i)))] [] σ
    refine g_aload_n h dX12_bestWill_14 0 rfl ?_
    refine g_bipush h dX12_bestWill_15 (by decide) ?_
    refine g_iload_n h dX12_bestWill_17 1 rfl ?_
    refine g_iaddN h dX12_bestWill_18  ?_
    refine g_cvpi (rest := []) h (r_of hW (16 + toN i) μ (by assumption) (by omega)) lX12_of mX12_61 (Nat.lt_of_lt_of_le (by decide) (Nat.le_refl _)) (by decide) sc_0 rfl rfl rfl rfl dX12_bestWill_19 ?_
    refine g_top (y := (μ (16 + toN i))) rfl ?_
    refine g_istore_n (L' := [(0, .ref (w.1 0)), (1, .int (nI (toN i))), (2, .int (μ (16 + toN i)))]) h dX12_bestWill_22 rfl (by decide) rfl ?_
    refine g_iconstv h dX12_bestWill_23 (v := (-1)) (by decide) ?_
    refine g_istore_n (L' := [(0, .ref (w.1 0)), (1, .int (nI (toN i))), (2, .int (μ (16 + toN i))), (3, .int (-1))]) h dX12_bestWill_24 rfl (by decide) rfl ?_
    refine g_bipush h dX12_bestWill_25 (by decide) ?_
    refine g_istore (L' := [(0, .ref (w.1 0)), (1, .int (nI (toN i))), (2, .int (μ (16 + toN i))), (3, .int (-1)), (4, .int (nI 99))]) h dX12_bestWill_27 rfl (by decide) rfl ?_
    refine g_iconst h dX12_bestWill_29 (by decide) ?_
    refine g_istore (L' := [(0, .ref (w.1 0)), (1, .int (nI (toN i))), (2, .int (μ (16 + toN i))), (3, .int (-1)), (4, .int (nI 99)), (5, .int (nI 0))]) h dX12_bestWill_30 rfl (by decide) rfl ?_
    have lp32 : ∀ (k9 : Nat) (bo : Option Nat) (few : Nat) (wl : Nat) (μ1 : Nat → Int32) (τ : Mem), (wl ≤ 8) → (BW μ (toN i) wl bo few) → (∀ y, upd μ1 (16 + toN i) y = upd μ (16 + toN i) y) → (few ≤ 99) → (MI μ1) → (vw 0 τ = μ1) → (∀ a, (464 ≤ a ∧ (a < 4900 ∨ 6000 ≤ a) ∧ a ≠ 4000 ∨ a = 10) → τ a = σ a) → 8 - wl < k9 → G X w 8 32 [(0, .ref (w.1 0)), (1, .int (nI (toN i))), (2, .int (μ (16 + toN i))), (3, .int (oI bo)), (4, .int (nI few)), (5, .int (nI wl))] [] (τ) := by
      intro k9
      induction k9 with
      | zero => intro bo few wl μ1 τ hw8 hB hU hfw hI1 hvτ hcFR_τ hm9; exact absurd hm9 (Nat.not_lt_zero _)
      | succ k9 ih32 =>
        intro bo few wl μ1 τ hw8 hB hU hfw hI1 hvτ hcFR_τ hm32
        have hN1 : nN μ1 = nN μ := by have q := congrFun (hU (nI 0)) 0; rw [upd_ne (by omega), upd_ne (by omega)] at q; unfold nN; rw [q]
        refine g_iload h dX12_bestWill_32 5 rfl ?_
        refine g_bipush h dX12_bestWill_34 (by decide) ?_
        refine g_icmpN_gt h dX12_bestWill_36 (by omega) (by omega) (fun c36 => ?_) (fun c36 => ?_)
        ·
          refine g_aload_n h dX12_bestWill_127 0 rfl ?_
          refine g_bipush h dX12_bestWill_128 (by decide) ?_
          refine g_iload_n h dX12_bestWill_130 1 rfl ?_
          refine g_iaddN h dX12_bestWill_131  ?_
          refine g_iload_n h dX12_bestWill_132 2 rfl ?_
          refine g_cvv (rest := []) h (r_puts hW (16 + toN i) (μ (16 + toN i)) (by omega)) lX12_puts mX12_57 (Nat.lt_of_lt_of_le (by decide) (Nat.le_refl _)) (by decide) sc_0 rfl rfl rfl rfl dX12_bestWill_133 (fun σ_1 eσ_1 => ?_)
          have eσ_1_a : σ_1 = upd (τ) (0 + (16 + toN i)) (μ (16 + toN i)) := eσ_1
          have hcFR_σ_1 : ∀ a, (464 ≤ a ∧ (a < 4900 ∨ 6000 ≤ a) ∧ a ≠ 4000 ∨ a = 10) → σ_1 a = σ a := by intro a ha; exact Eq.trans (b := (τ) a) (by rw [eσ_1_a, upd_ne (by first | omega | (simp only [vb] at *; omega))]) (hcFR_τ a ha)
          obtain ⟨μz, eμz⟩ : ∃ μz : Nat → Int32, μz = upd μ1 (16 + toN i) (μ (16 + toN i)) := ⟨_, rfl⟩
          have hvσ_1 : vw 0 σ_1 = μz := by rw [eσ_1_a, eμz, vw_in (by omega)]; congr 1
          rcases oI_or bo with ⟨hn, he⟩ | ⟨b, hn, he⟩
          ·
            rw [he]
            show G X w 8 136 [(0, .ref (w.1 0)), (1, .int (nI (toN i))), (2, .int (μ (16 + toN i))), (3, .int (-1)), (4, .int (nI few)), (5, .int (nI wl))] [] σ_1
            refine g_aload_n h dX12_bestWill_136 0 rfl ?_
            refine g_iload_n h dX12_bestWill_137 3 rfl ?_
            refine g_cvi (rest := []) h (r_gives hW (-1) ) lX12_gives mX12_281 (Nat.lt_of_lt_of_le (by decide) (Nat.le_refl _)) (by decide) sc_0 rfl rfl rfl rfl dX12_bestWill_138 (fun σ_2 eσ_2 => ?_)
            have eσ_2_a : σ_2 = upd σ_1 4000 (nI 0) := eσ_2
            have ht4000_σ_2 : σ_2 4000 = (nI 0) := by rw [eσ_2_a]; exact upd_eq
            have hcFR_σ_2 : ∀ a, (464 ≤ a ∧ (a < 4900 ∨ 6000 ≤ a) ∧ a ≠ 4000 ∨ a = 10) → σ_2 a = σ a := by intro a ha; exact Eq.trans (b := σ_1 a) (by rw [eσ_2_a, upd_ne (by first | omega | (simp only [vb] at *; omega))]) (hcFR_σ_1 a ha)
            have hvσ_2 : vw 0 σ_2 = μz := by rw [eσ_2_a, vw_out (by omega)]; first | exact hvσ_1 | assumption
            exact g_iret h hQ dX12_bestWill_141 (congrArg (fun z => some (Value.int z)) (show (an (ns μ i) (nI (bwS μ (toN i) 8).1)) = (-1) by first | exact an_yes hns (congrArg nI (Option.some.inj (hn.symm.trans (hB.fin (by omega)))).symm) | exact absurd (hn.symm.trans (hB.fin (by omega))) (fun e => by cases e) | exact an_no (k := 2) (by simp [ns, nB, c5, c36]) (by decide) | fail)) (by exact ⟨(by first | exact hvσ_2 | (rw [hvσ_2, eμz, hU]; exact upd_id) | fail), (by first | exact tk_eq (k := 0) hns ht4000_σ_2 | exact tk_eq (k := 0) (by simp [ns, nB, c5, c36]) ht4000_σ_2 | fail), (by exact hcFR_σ_2)⟩)
          ·
            rw [he]
            show G X w 8 136 [(0, .ref (w.1 0)), (1, .int (nI (toN i))), (2, .int (μ (16 + toN i))), (3, .int (nI b)), (4, .int (nI few)), (5, .int (nI wl))] [] σ_1
            refine g_aload_n h dX12_bestWill_136 0 rfl ?_
            refine g_iload_n h dX12_bestWill_137 3 rfl ?_
            refine g_cvi (rest := []) h (r_gives hW (nI b) ) lX12_gives mX12_281 (Nat.lt_of_lt_of_le (by decide) (Nat.le_refl _)) (by decide) sc_0 rfl rfl rfl rfl dX12_bestWill_138 (fun σ_3 eσ_3 => ?_)
            have eσ_3_a : σ_3 = upd σ_1 4000 (nI 0) := eσ_3
            have ht4000_σ_3 : σ_3 4000 = (nI 0) := by rw [eσ_3_a]; exact upd_eq
            have hcFR_σ_3 : ∀ a, (464 ≤ a ∧ (a < 4900 ∨ 6000 ≤ a) ∧ a ≠ 4000 ∨ a = 10) → σ_3 a = σ a := by intro a ha; exact Eq.trans (b := σ_1 a) (by rw [eσ_3_a, upd_ne (by first | omega | (simp only [vb] at *; omega))]) (hcFR_σ_1 a ha)
            have hvσ_3 : vw 0 σ_3 = μz := by rw [eσ_3_a, vw_out (by omega)]; first | exact hvσ_1 | assumption
            exact g_iret h hQ dX12_bestWill_141 (congrArg (fun z => some (Value.int z)) (show (an (ns μ i) (nI (bwS μ (toN i) 8).1)) = (nI b) by first | exact an_yes hns (congrArg nI (Option.some.inj (hn.symm.trans (hB.fin (by omega)))).symm) | exact absurd (hn.symm.trans (hB.fin (by omega))) (fun e => by cases e) | exact an_no (k := 2) (by simp [ns, nB, c5, c36]) (by decide) | fail)) (by exact ⟨(by first | exact hvσ_3 | (rw [hvσ_3, eμz, hU]; exact upd_id) | fail), (by first | exact tk_eq (k := 0) hns ht4000_σ_3 | exact tk_eq (k := 0) (by simp [ns, nB, c5, c36]) ht4000_σ_3 | fail), (by exact hcFR_σ_3)⟩)
        ·
          refine g_iconst h dX12_bestWill_39 (by decide) ?_
          refine g_istore (L' := [(0, .ref (w.1 0)), (1, .int (nI (toN i))), (2, .int (μ (16 + toN i))), (3, .int (oI bo)), (4, .int (nI few)), (5, .int (nI wl)), (6, .int (nI 0))]) h dX12_bestWill_40 rfl (by decide) rfl ?_
          refine g_aload_n h dX12_bestWill_42 0 rfl ?_
          refine g_bipush h dX12_bestWill_43 (by decide) ?_
          refine g_iload_n h dX12_bestWill_45 1 rfl ?_
          refine g_iaddN h dX12_bestWill_46  ?_
          refine g_iload h dX12_bestWill_47 5 rfl ?_
          refine g_cvv (rest := []) h (r_puts hW (16 + toN i) (nI wl) (by omega)) lX12_puts mX12_57 (Nat.lt_of_lt_of_le (by decide) (Nat.le_refl _)) (by decide) sc_0 rfl rfl rfl rfl dX12_bestWill_49 (fun σ_4 eσ_4 => ?_)
          have eσ_4_a : σ_4 = upd (τ) (0 + (16 + toN i)) (nI wl) := eσ_4
          have hcFR_σ_4 : ∀ a, (464 ≤ a ∧ (a < 4900 ∨ 6000 ≤ a) ∧ a ≠ 4000 ∨ a = 10) → σ_4 a = σ a := by intro a ha; exact Eq.trans (b := (τ) a) (by rw [eσ_4_a, upd_ne (by first | omega | (simp only [vb] at *; omega))]) (hcFR_τ a ha)
          obtain ⟨μk, eμk⟩ : ∃ μk : Nat → Int32, μk = upd μ1 (16 + toN i) (nI wl) := ⟨_, rfl⟩
          have hvσ_4 : vw 0 σ_4 = μk := by rw [eσ_4_a, eμk, vw_in (by omega)]; congr 1
          refine g_iconst h dX12_bestWill_52 (by decide) ?_
          refine g_istore (L' := [(0, .ref (w.1 0)), (1, .int (nI (toN i))), (2, .int (μ (16 + toN i))), (3, .int (oI bo)), (4, .int (nI few)), (5, .int (nI wl)), (6, .int (nI 0)), (7, .int (nI 0))]) h dX12_bestWill_53 rfl (by decide) rfl ?_
          have lp55 : ∀ (k9 : Nat) (s : Nat) (j : Nat) (τ2 : Mem), (j ≤ nN μ) → (s = smC μk j) → (vw 0 τ2 = μk) → (∀ a, (464 ≤ a ∧ (a < 4900 ∨ 6000 ≤ a) ∧ a ≠ 4000 ∨ a = 10) → τ2 a = σ a) → nN μ - j < k9 → G X w 8 55 [(0, .ref (w.1 0)), (1, .int (nI (toN i))), (2, .int (μ (16 + toN i))), (3, .int (oI bo)), (4, .int (nI few)), (5, .int (nI wl)), (6, .int (nI s)), (7, .int (nI j))] [] (τ2) := by
            intro k9
            induction k9 with
            | zero => intro s j τ2 hj hsj hvτ2 hcFR_τ2 hm9; exact absurd hm9 (Nat.not_lt_zero _)
            | succ k9 ih55 =>
              intro s j τ2 hj hsj hvτ2 hcFR_τ2 hm55
              have hkE : μk = upd μ (16 + toN i) (nI wl) := by rw [eμk]; exact hU _
              have hIk : MI μk := by rw [hkE]; exact wl_mi hI (by omega) (by omega)
              have hNk : nN μk = nN μ := by rw [hkE]; exact wl_N
              have hsle := smC_le μk j
              refine g_iload h dX12_bestWill_55 7 rfl ?_
              refine g_aload_n h dX12_bestWill_57 0 rfl ?_
              refine g_iconst h dX12_bestWill_58 (by decide) ?_
              refine g_cvpi (rest := [.int (nI j)]) h (r_of hW 0 μk (by assumption) (by omega)) lX12_of mX12_61 (Nat.lt_of_lt_of_le (by decide) (Nat.le_refl _)) (by decide) sc_0 rfl rfl rfl rfl dX12_bestWill_59 ?_
              refine g_top (y := μ1 0) (by rw [eμk, upd_ne (by first | omega | (simp only [vb] at *; omega))]) ?_
              refine g_top (y := nI (nN μ1)) (mi_0 (by assumption)) ?_
              refine g_icmpN_ge h dX12_bestWill_62 (by omega) (by omega) (fun c62 => ?_) (fun c62 => ?_)
              ·
                have hsm : s = smC (upd μ (16 + toN i) (nI wl)) (nN μ) := by rw [hsj, ← hkE, show j = nN μ from by omega]
                refine g_iload h dX12_bestWill_98 6 rfl ?_
                refine g_iload h dX12_bestWill_100 4 rfl ?_
                refine g_icmpN_ge h dX12_bestWill_102 (by omega) (by omega) (fun c102 => ?_) (fun c102 => ?_)
                ·
                  refine g_iload_n h dX12_bestWill_110 3 rfl ?_
                  refine g_istore_n (L' := [(0, .ref (w.1 0)), (1, .int (nI (toN i))), (2, .int (μ (16 + toN i))), (3, .int (oI bo)), (4, .int (nI few)), (5, .int (nI wl)), (6, .int (nI s)), (7, .int (nI j))]) h dX12_bestWill_111 rfl (by decide) rfl ?_
                  refine g_iload h dX12_bestWill_112 4 rfl ?_
                  refine g_iload h dX12_bestWill_114 6 rfl ?_
                  refine g_cspi (rest := []) h (j_min hW few s (by omega) (by omega)) lJ9_min_7cf53 mX12_208 (Nat.lt_of_lt_of_le (by decide) (Nat.le_refl _)) (by decide) rfl rfl rfl dX12_bestWill_116 ?_
                  refine g_istore (L' := [(0, .ref (w.1 0)), (1, .int (nI (toN i))), (2, .int (μ (16 + toN i))), (3, .int (oI bo)), (4, .int (nI (min few s))), (5, .int (nI wl)), (6, .int (nI s)), (7, .int (nI j))]) h dX12_bestWill_119 rfl (by decide) rfl ?_
                  refine g_iincN (b := 1) (L' := [(0, .ref (w.1 0)), (1, .int (nI (toN i))), (2, .int (μ (16 + toN i))), (3, .int (oI bo)), (4, .int (nI (min few s))), (5, .int (nI (wl + 1))), (6, .int (nI s)), (7, .int (nI j))]) h dX12_bestWill_121 5 rfl rfl (by decide) (by decide) rfl ?_
                  refine g_goto h dX12_bestWill_124 ?_
                  exact g_sub [0, 1, 2, 3, 4, 5] rfl (ih32 bo (min few s) (wl + 1) μk (τ2) (by omega) (by first | exact hB.yes hsm c102 | exact hB.no hN8 hsm (Nat.not_lt.mpr c102) | fail | fail) (by intro y; rw [eμk, upd_upd]; exact hU y) (by omega) (by exact hIk) (by first | exact hvτ2 | assumption | fail | fail) (by first | exact hcFR_τ2 | assumption | fail | fail) (by omega))
                ·
                  refine g_iload h dX12_bestWill_105 5 rfl ?_
                  refine g_goto h dX12_bestWill_107 ?_
                  refine g_istore_n (L' := [(0, .ref (w.1 0)), (1, .int (nI (toN i))), (2, .int (μ (16 + toN i))), (3, .int (nI wl)), (4, .int (nI few)), (5, .int (nI wl)), (6, .int (nI s)), (7, .int (nI j))]) h dX12_bestWill_111 rfl (by decide) rfl ?_
                  refine g_iload h dX12_bestWill_112 4 rfl ?_
                  refine g_iload h dX12_bestWill_114 6 rfl ?_
                  refine g_cspi (rest := []) h (j_min hW few s (by omega) (by omega)) lJ9_min_7cf53 mX12_208 (Nat.lt_of_lt_of_le (by decide) (Nat.le_refl _)) (by decide) rfl rfl rfl dX12_bestWill_116 ?_
                  refine g_istore (L' := [(0, .ref (w.1 0)), (1, .int (nI (toN i))), (2, .int (μ (16 + toN i))), (3, .int (nI wl)), (4, .int (nI (min few s))), (5, .int (nI wl)), (6, .int (nI s)), (7, .int (nI j))]) h dX12_bestWill_119 rfl (by decide) rfl ?_
                  refine g_iincN (b := 1) (L' := [(0, .ref (w.1 0)), (1, .int (nI (toN i))), (2, .int (μ (16 + toN i))), (3, .int (nI wl)), (4, .int (nI (min few s))), (5, .int (nI (wl + 1))), (6, .int (nI s)), (7, .int (nI j))]) h dX12_bestWill_121 5 rfl rfl (by decide) (by decide) rfl ?_
                  refine g_goto h dX12_bestWill_124 ?_
                  exact g_sub [0, 1, 2, 3, 4, 5] rfl (ih32 (some wl) (min few s) (wl + 1) μk (τ2) (by omega) (by first | exact hB.yes hsm c102 | exact hB.no hN8 hsm (Nat.not_lt.mpr c102) | fail | fail) (by intro y; rw [eμk, upd_upd]; exact hU y) (by omega) (by exact hIk) (by first | exact hvτ2 | assumption | fail | fail) (by first | exact hcFR_τ2 | assumption | fail | fail) (by omega))
              ·
                refine g_iload h dX12_bestWill_65 6 rfl ?_
                refine g_aload_n h dX12_bestWill_67 0 rfl ?_
                refine g_iload h dX12_bestWill_68 7 rfl ?_
                refine g_cvpi (rest := [.int (nI s)]) h (r_isOn hW j μk (by assumption) (by omega)) lX12_isOn mX12_114 (Nat.lt_of_lt_of_le (by decide) (Nat.le_refl _)) (by decide) sc_0 rfl rfl rfl rfl dX12_bestWill_70 ?_
                refine g_ifB_eq h dX12_bestWill_73 (fun c73 => ?_) (fun c73 => ?_)
                ·
                  refine g_iconst h dX12_bestWill_88 (by decide) ?_
                  refine g_iaddN h dX12_bestWill_89  ?_
                  refine g_istore (L' := [(0, .ref (w.1 0)), (1, .int (nI (toN i))), (2, .int (μ (16 + toN i))), (3, .int (oI bo)), (4, .int (nI few)), (5, .int (nI wl)), (6, .int (nI (s + 0))), (7, .int (nI j))]) h dX12_bestWill_90 rfl (by decide) rfl ?_
                  refine g_iincN (b := 1) (L' := [(0, .ref (w.1 0)), (1, .int (nI (toN i))), (2, .int (μ (16 + toN i))), (3, .int (oI bo)), (4, .int (nI few)), (5, .int (nI wl)), (6, .int (nI (s + 0))), (7, .int (nI (j + 1)))]) h dX12_bestWill_92 7 rfl rfl (by decide) (by decide) rfl ?_
                  refine g_goto h dX12_bestWill_95 ?_
                  exact ih55 (s + 0) (j + 1) (τ2) (by omega) (by simp [smC, ← hsj, c5, c36, c62, c73]) (by first | exact hvτ2 | assumption | fail | fail) (by first | exact hcFR_τ2 | assumption | fail | fail) (by omega)
                ·
                  refine g_aload_n h dX12_bestWill_76 0 rfl ?_
                  refine g_iload h dX12_bestWill_77 7 rfl ?_
                  refine g_cvi (rest := [.int (nI s)]) h (r_chosen hW j μk (by first | exact hvτ2 | assumption | fail) (by exact hIk) (by omega)) lX12_chosen mX12_166 (Nat.lt_of_lt_of_le (by decide) (Nat.le_refl _)) (by decide) sc_0 rfl rfl rfl rfl dX12_bestWill_79 (fun σ_5 eσ_5 => ?_)
                  obtain ⟨eσ_5_a, eσ_5_b⟩ := eσ_5
                  have eσ_5_a : PK μk j σ_5 5012 5100 := eσ_5_a
                  have eσ_5_b : ∀ a, (a ≠ 5012 ∧ (a < 5100 ∨ 5108 ≤ a)) → σ_5 a = (τ2) a := eσ_5_b
                  have hcFR_σ_5 : ∀ a, (464 ≤ a ∧ (a < 4900 ∨ 6000 ≤ a) ∧ a ≠ 4000 ∨ a = 10) → σ_5 a = σ a := by intro a ha; exact Eq.trans (b := (τ2) a) (eσ_5_b a (by first | omega | (simp only [vb] at *; omega))) (hcFR_τ2 a ha)
                  have hvσ_5 : vw 0 σ_5 = μk := by rw [vw_fr (σ := (τ2)) (fun j _ _ => eσ_5_b _ (by first | omega | (simp only [vb] at *; omega)))]; first | exact hvτ2 | assumption
                  refine g_cspi (rest := [.int (nI s)]) h (r_bits hW (chos μk j) (by exact sb_chos hIk)) lX12_bits mX12_83 (Nat.lt_of_lt_of_le (by decide) (Nat.le_refl _)) (by decide) rfl rfl rfl dX12_bestWill_82 ?_
                  have p9_82 := pc_le (chos μk j)
                  refine g_goto h dX12_bestWill_85 ?_
                  refine g_iaddN h dX12_bestWill_89  ?_
                  refine g_istore (L' := [(0, .ref (w.1 0)), (1, .int (nI (toN i))), (2, .int (μ (16 + toN i))), (3, .int (oI bo)), (4, .int (nI few)), (5, .int (nI wl)), (6, .int (nI (s + pc (chos μk j)))), (7, .int (nI j))]) h dX12_bestWill_90 rfl (by decide) rfl ?_
                  refine g_iincN (b := 1) (L' := [(0, .ref (w.1 0)), (1, .int (nI (toN i))), (2, .int (μ (16 + toN i))), (3, .int (oI bo)), (4, .int (nI few)), (5, .int (nI wl)), (6, .int (nI (s + pc (chos μk j)))), (7, .int (nI (j + 1)))]) h dX12_bestWill_92 7 rfl rfl (by decide) (by decide) rfl ?_
                  refine g_goto h dX12_bestWill_95 ?_
                  exact ih55 (s + pc (chos μk j)) (j + 1) σ_5 (by omega) (by simp [smC, ← hsj, c5, c36, c62, c73]) (by first | exact hvσ_5 | assumption | fail | fail) (by first | exact hcFR_σ_5 | assumption | fail | fail) (by omega)
          exact lp55 (_) 0 0 σ_4 (by omega) (by rfl) (by first | exact hvσ_4 | assumption | fail | fail) (by first | exact hcFR_σ_4 | assumption | fail | fail) (Nat.lt_succ_self _)
    exact lp32 (_) none 99 0 μ σ (by omega) (by exact Or.inl ⟨rfl, rfl, rfl⟩) (by intro y; rfl) (by omega) (by exact hI) (by first | exact hv | assumption | fail | fail) (by first | exact hcFR_σ | assumption | fail | fail) (Nat.lt_succ_self _)
  ·
    refine g_aload_n h dX12_bestWill_8 0 rfl ?_
    refine g_iconst h dX12_bestWill_9 (by decide) ?_
    refine g_cvi (rest := []) h (r_refuse hW (nI 2) ) lX12_refuse mX12_272 (Nat.lt_of_lt_of_le (by decide) (Nat.le_refl _)) (by decide) sc_0 rfl rfl rfl rfl dX12_bestWill_10 (fun σ_6 eσ_6 => ?_)
    have eσ_6_a : σ_6 = upd σ 4000 (nI 2) := eσ_6
    have ht4000_σ_6 : σ_6 4000 = (nI 2) := by rw [eσ_6_a]; exact upd_eq
    have hcFR_σ_6 : ∀ a, (464 ≤ a ∧ (a < 4900 ∨ 6000 ≤ a) ∧ a ≠ 4000 ∨ a = 10) → σ_6 a = σ a := by intro a ha; exact Eq.trans (b := σ a) (by rw [eσ_6_a, upd_ne (by first | omega | (simp only [vb] at *; omega))]) (hcFR_σ a ha)
    have hvσ_6 : vw 0 σ_6 = μ := by rw [eσ_6_a, vw_out (by omega)]; first | exact hv | assumption
    exact g_iret h hQ dX12_bestWill_13 (congrArg (fun z => some (Value.int z)) (show (an (ns μ i) (nI (bwS μ (toN i) 8).1)) = (-1) by first | exact an_yes hns (congrArg nI (Option.some.inj (hn.symm.trans (hB.fin (by omega)))).symm) | exact absurd (hn.symm.trans (hB.fin (by omega))) (fun e => by cases e) | exact an_no (k := 2) (by simp [ns, nB, c5]) (by decide) | fail)) (by exact ⟨(by first | exact hvσ_6 | (rw [hvσ_6, eμz, hU]; exact upd_id) | fail), (by first | exact tk_eq (k := 2) hns ht4000_σ_6 | exact tk_eq (k := 2) (by simp [ns, nB, c5]) ht4000_σ_6 | fail), (by exact hcFR_σ_6)⟩)

set_option maxRecDepth 100000 in
set_option maxHeartbeats 4000000 in
theorem p_bestWill {l : Launch} {w : Wd} (hW : Wi w) {σ : Mem} (i : Int32) (nt : Nat) (g : Nat → Nat → Int32) (μ μ1 : Nat → Int32) (hv : vw (vb 0) σ = μ) (hI : MI μ) (hw : vw (vb 1) σ = μ1) (hjz : jz μ) (hjz1 : jz μ1) (hcLD_σ : LC (vb 0) σ nt g) : MC l w qX11_bestWill 5 [.ref (w.1 12), .int i] σ (some (.int (an (ns μ i) (nI (bwS μ (toN i) 8).1)))) (fun σ' => (σ' 14000 = (nI (ns μ i))) ∧ (∃ ν, vw (vb 1) σ' = ν ∧ jz ν) ∧ (∀ a, ((a < vb 1 ∨ vb 1 + 528 ≤ a) ∧ a < 14900 ∧ a ≠ 14000) → σ' a = σ a)) := by
  refine MC.of hW (by decide +kernel) (Nat.le_of_ble_eq_true rfl) (fun X h hQ hnm => ?_)
  have h : Fx X w cX11_bestWill 6 RX11 5 := h
  have hQ : Qx X w (some .int) (some (.int (an (ns μ i) (nI (bwS μ (toN i) 8).1)))) (fun σ' => (σ' 14000 = (nI (ns μ i))) ∧ (∃ ν, vw (vb 1) σ' = ν ∧ jz ν) ∧ (∀ a, ((a < vb 1 ∨ vb 1 + 528 ≤ a) ∧ a < 14900 ∧ a ≠ 14000) → σ' a = σ a)) := hQ
  have hN8 := mi_8 hI
  have hvb0 : vb 0 = 10000 := rfl
  have hvb1 : vb 1 = 10528 := rfl
  have hcFR_σ : ∀ a, ((a < vb 1 ∨ vb 1 + 528 ≤ a) ∧ a < 14900 ∧ a ≠ 14000) → σ a = σ a := fun _ _ => rfl
  show G X w 6 0 [(0, .ref (w.1 12)), (1, .int i)] [] σ
  refine g_aload_n h dX11_bestWill_0 0 rfl ?_
  refine g_aload_n h dX11_bestWill_1 0 rfl ?_
  refine g_iload_n h dX11_bestWill_2 1 rfl ?_
  refine g_cvpi (rest := [.ref (w.1 12)]) h (c_ns hW i μ (by first | exact hv | assumption | fail)) lX11_nodeStatus mX11_159 (Nat.lt_of_lt_of_le (by decide) (Nat.le_refl _)) (by decide) sc_12 rfl rfl rfl rfl dX11_bestWill_3 ?_
  refine g_cvi (rest := []) h (c_fails hW (ns μ i) (by repeat (first | omega | exact rg_lt | exact ns_lt | exact ps_lt | exact gst_lt | exact ofS_lt | exact if_lt (by decide) (by decide) | apply fo_lt))) lX11_fails mX11_106 (Nat.lt_of_lt_of_le (by decide) (Nat.le_refl _)) (by decide) sc_12 rfl rfl rfl rfl dX11_bestWill_6 (fun σ_1 eσ_1 => ?_)
  obtain ⟨eσ_1_a, eσ_1_b⟩ := eσ_1
  have eσ_1_a : σ_1 14000 = (nI (ns μ i)) := eσ_1_a
  have eσ_1_b : ∀ a, (a ≠ 14000) → σ_1 a = σ a := eσ_1_b
  have ht14000_σ_1 : σ_1 14000 = (nI (ns μ i)) := eσ_1_a
  have hcLD_σ_1 : LC (vb 0) σ_1 nt g := by exact LC.fr hcLD_σ (fun a ha hb => eσ_1_b a (by first | omega | (simp only [vb] at *; omega)))
  have hcFR_σ_1 : ∀ a, ((a < vb 1 ∨ vb 1 + 528 ≤ a) ∧ a < 14900 ∧ a ≠ 14000) → σ_1 a = σ a := by intro a ha; exact Eq.trans (b := σ a) (eσ_1_b a (by first | omega | (simp only [vb] at *; omega))) (hcFR_σ a ha)
  have hvσ_1 : vw (vb 0) σ_1 = μ := by rw [vw_fr (σ := σ) (fun j _ _ => eσ_1_b _ (by first | omega | (simp only [vb] at *; omega)))]; first | exact hv | assumption
  have hwσ_1 : vw (vb 1) σ_1 = μ1 := by rw [vw_fr (σ := σ) (fun j _ _ => eσ_1_b _ (by first | omega | (simp only [vb] at *; omega)))]; first | exact hw | assumption
  refine g_ifB_eq h dX11_bestWill_9 (fun c9 => ?_) (fun c9 => ?_)
  ·
    have hns := nb0 c9
    obtain ⟨ei, hi9⟩ := nB_N hI (ns_0 hns)
    rw [ei]
    show G X w 6 14 [(0, .ref (w.1 12)), (1, .int (nI (toN i)))] [] σ_1
    refine g_aload_n h dX11_bestWill_14 0 rfl ?_
    refine g_getr h dX11_bestWill_15 gX11_27 sc_12 rfl ?_
    refine g_aload_n h dX11_bestWill_18 0 rfl ?_
    refine g_getr h dX11_bestWill_19 gX11_23 sc_12 rfl ?_
    refine g_cvv (rest := []) h (c_become hW nt g 1 0 μ1 μ (by first | omega | decide | fail) (by first | omega | decide | fail) (by first | omega | decide | fail) (by first | exact hvσ_1 | assumption | fail) (by first | exact w | assumption | fail) (by intro a h1 h2; rw [hjz a h1 h2]; exact hjz1 a h1 h2) (by first | exact hcLD_σ_1 | assumption | fail)) lX5_become mX11_116 (Nat.lt_of_lt_of_le (by decide) (Nat.le_refl _)) (by decide) (sM_0 (m := 1) (by decide)) rfl rfl rfl rfl dX11_bestWill_22 (fun σ_2 eσ_2 => ?_)
    obtain ⟨eσ_2_a, eσ_2_b, eσ_2_c, eσ_2_d⟩ := eσ_2
    have eσ_2_a : vw (vb 1) σ_2 = μ := eσ_2_a
    have eσ_2_b : LC (vb 0) σ_2 nt g := eσ_2_b
    have eσ_2_c : LC (vb 1) σ_2 nt g := eσ_2_c
    have eσ_2_d : ∀ a, (a < vb 1 ∨ vb 1 + 528 ≤ a) → σ_2 a = σ_1 a := eσ_2_d
    have ht14000_σ_2 : σ_2 14000 = (nI (ns μ i)) := by rw [eσ_2_d _ (by first | omega | (simp only [vb] at *; omega))]; first | exact ht14000_σ_1 | assumption
    have hcLD_σ_2 : LC (vb 0) σ_2 nt g := eσ_2_b
    have hcFR_σ_2 : ∀ a, ((a < vb 1 ∨ vb 1 + 528 ≤ a) ∧ a < 14900 ∧ a ≠ 14000) → σ_2 a = σ a := by intro a ha; exact Eq.trans (b := σ_1 a) (eσ_2_d a (by first | omega | (simp only [vb] at *; omega))) (hcFR_σ_1 a ha)
    have hcLC_σ_2 : LC (vb 1) σ_2 nt g := eσ_2_c
    have hvσ_2 : vw (vb 0) σ_2 = μ := by rw [vw_fr (σ := σ_1) (fun j _ _ => eσ_2_d _ (by first | omega | (simp only [vb] at *; omega)))]; first | exact hvσ_1 | assumption
    obtain ⟨μk, eμk⟩ : ∃ μk : Nat → Int32, μk = μ := ⟨_, rfl⟩
    have hwσ_2 : vw (vb 1) σ_2 = μk := by rw [eμk]; exact eσ_2_a
    refine g_iconst h dX11_bestWill_25 (by decide) ?_
    refine g_istore_n (L' := [(0, .ref (w.1 12)), (1, .int (nI (toN i))), (2, .int (nI 0))]) h dX11_bestWill_26 rfl (by decide) rfl ?_
    refine g_iconst h dX11_bestWill_27 (by decide) ?_
    refine g_istore_n (L' := [(0, .ref (w.1 12)), (1, .int (nI (toN i))), (2, .int (nI 0)), (3, .int (nI 0))]) h dX11_bestWill_28 rfl (by decide) rfl ?_
    refine g_iconst h dX11_bestWill_29 (by decide) ?_
    refine g_istore (L' := [(0, .ref (w.1 12)), (1, .int (nI (toN i))), (2, .int (nI 0)), (3, .int (nI 0)), (4, .int (nI 0))]) h dX11_bestWill_30 rfl (by decide) rfl ?_
    have lp32 : ∀ (k9 : Nat) (best : Nat) (few : Nat) (wl : Nat) (μ2 : Nat → Int32) (τ : Mem), (wl ≤ 8) → (0 < wl → (best, few) = bwS μ (toN i) wl) → (∀ y, upd μ2 (16 + toN i) y = upd μ (16 + toN i) y) → (best < 8 ∧ few ≤ 64) → (MI μ2) → (vw (vb 0) τ = μ) → (vw (vb 1) τ = μ2) → (τ 14000 = (nI (ns μ i))) → (LC (vb 0) τ nt g) → (∀ a, ((a < vb 1 ∨ vb 1 + 528 ≤ a) ∧ a < 14900 ∧ a ≠ 14000) → τ a = σ a) → 8 - wl < k9 → G X w 6 32 [(0, .ref (w.1 12)), (1, .int (nI (toN i))), (2, .int (nI best)), (3, .int (nI few)), (4, .int (nI wl))] [] (τ) := by
      intro k9
      induction k9 with
      | zero => intro best few wl μ2 τ hw8 hB hU hbf hI2 hvτ hv_τvb1 ht14000_τ hcLD_τ hcFR_τ hm9; exact absurd hm9 (Nat.not_lt_zero _)
      | succ k9 ih32 =>
        intro best few wl μ2 τ hw8 hB hU hbf hI2 hvτ hv_τvb1 ht14000_τ hcLD_τ hcFR_τ hm32
        refine g_iload h dX11_bestWill_32 4 rfl ?_
        refine g_bipush h dX11_bestWill_34 (by decide) ?_
        refine g_icmpN_gt h dX11_bestWill_36 (by omega) (by omega) (fun c36 => ?_) (fun c36 => ?_)
        ·
          refine g_iload_n h dX11_bestWill_86 2 rfl ?_
          exact g_iret h hQ dX11_bestWill_87 (congrArg (fun z => some (Value.int z)) (show (an (ns μ i) (nI (bwS μ (toN i) 8).1)) = (nI best) by first | exact an_yes hns (by rw [show (8 : Nat) = wl from by omega, ← hB (by omega)]) | exact an_no (k := (ns μ i)) rfl (nb1 c9) | fail)) (by exact ⟨(by first | exact tk_eq (k := (ns μ i)) rfl ht14000_τ | exact ht14000_τ | fail), (by first | exact ⟨μ1, hw, hjz1⟩ | exact ⟨μ1, by assumption, hjz1⟩ | exact ⟨μ2, by assumption, fun a h1 h2 => by have q := congrFun (hU (nI 0)) a; rw [upd_ne (by omega), upd_ne (by omega)] at q; rw [q]; exact hjz a h1 h2⟩ | fail), (by exact hcFR_τ)⟩)
        ·
          refine g_aload_n h dX11_bestWill_39 0 rfl ?_
          refine g_getr h dX11_bestWill_40 gX11_27 sc_12 rfl ?_
          refine g_getr h dX11_bestWill_43 gX11_174 (sM_0 (m := 1) (by decide)) rfl ?_
          refine g_iload_n h dX11_bestWill_46 1 rfl ?_
          refine g_iload h dX11_bestWill_47 4 rfl ?_
          refine g_iast h dX11_bestWill_49 (sM_1 (m := 1) (by decide)) (by omega) ?_
          refine g_nm (fun σ_3 eσ_3 => ?_)
          have eσ_3 : σ_3 = upd (τ) ((vb 1) + (16 + (toN i))) (nI wl) := eσ_3
          have ht14000_σ_3 : σ_3 14000 = (nI (ns μ i)) := by rw [eσ_3, upd_ne (by first | omega | (simp only [vb] at *; omega))]; first | exact ht14000_τ | assumption
          have hcLD_σ_3 : LC (vb 0) σ_3 nt g := by rw [eσ_3]; exact LC.fr hcLD_τ (fun a ha hb => upd_ne (by first | omega | (simp only [vb] at *; omega)))
          have hcFR_σ_3 : ∀ a, ((a < vb 1 ∨ vb 1 + 528 ≤ a) ∧ a < 14900 ∧ a ≠ 14000) → σ_3 a = σ a := by intro a ha; exact Eq.trans (b := (τ) a) (by rw [eσ_3, upd_ne (by first | omega | (simp only [vb] at *; omega))]) (hcFR_τ a ha)
          have hvσ_3 : vw (vb 0) σ_3 = μ := by rw [eσ_3, vw_out (by first | omega | (simp only [vb] at *; omega))]; first | exact hvτ | assumption
          obtain ⟨μw, eμw⟩ : ∃ μw : Nat → Int32, μw = upd μ2 (16 + (toN i)) (nI wl) := ⟨_, rfl⟩
          have hwσ_3 : vw (vb 1) σ_3 = μw := by rw [eσ_3, eμw, vw_in (by omega)]; congr 1
          have hwE : μw = upd μ (16 + toN i) (nI wl) := by rw [eμw]; exact hU _
          have hIw : MI μw := by rw [hwE]; exact wl_mi hI (by omega) (by omega)
          have hNw : nN μw = nN μ := by rw [hwE]; exact wl_N
          have hsle := smC_le μw (nN μw)
          have hsm : smC (upd μ (16 + toN i) (nI wl)) (nN μ) = smC μw (nN μw) := by rw [← hwE, hNw]
          refine g_aload_n h dX11_bestWill_50 0 rfl ?_
          refine g_getr h dX11_bestWill_51 gX11_44 sc_12 rfl ?_
          refine g_aload_n h dX11_bestWill_54 0 rfl ?_
          refine g_getr h dX11_bestWill_55 gX11_27 sc_12 rfl ?_
          refine g_cvi (rest := []) h (c_chosenByAll hW 1 μw (by first | omega | decide | fail) (by assumption) (by exact hIw)) lX0_chosenByAll mX11_246 (Nat.lt_of_lt_of_le (by decide) (Nat.le_refl _)) (by decide) sc_18 rfl rfl rfl rfl dX11_bestWill_58 (fun σ_4 eσ_4 => ?_)
          have eσ_4_a : ∀ a, (a ≠ 15013 ∧ (a < 15100 ∨ 15108 ≤ a)) → σ_4 a = σ_3 a := eσ_4
          have ht14000_σ_4 : σ_4 14000 = (nI (ns μ i)) := by rw [eσ_4_a _ (by first | omega | (simp only [vb] at *; omega))]; first | exact ht14000_σ_3 | assumption
          have hcLD_σ_4 : LC (vb 0) σ_4 nt g := by exact LC.fr hcLD_σ_3 (fun a ha hb => eσ_4_a a (by first | omega | (simp only [vb] at *; omega)))
          have hcFR_σ_4 : ∀ a, ((a < vb 1 ∨ vb 1 + 528 ≤ a) ∧ a < 14900 ∧ a ≠ 14000) → σ_4 a = σ a := by intro a ha; exact Eq.trans (b := σ_3 a) (eσ_4_a a (by first | omega | (simp only [vb] at *; omega))) (hcFR_σ_3 a ha)
          have hvσ_4 : vw (vb 0) σ_4 = μ := by rw [vw_fr (σ := σ_3) (fun j _ _ => eσ_4_a _ (by first | omega | (simp only [vb] at *; omega)))]; first | exact hvσ_3 | assumption
          have hwσ_4 : vw (vb 1) σ_4 = μw := by rw [vw_fr (σ := σ_3) (fun j _ _ => eσ_4_a _ (by first | omega | (simp only [vb] at *; omega)))]; first | exact hwσ_3 | assumption
          refine g_istore (L' := [(0, .ref (w.1 12)), (1, .int (nI (toN i))), (2, .int (nI best)), (3, .int (nI few)), (4, .int (nI wl)), (5, .int (nI (smC μw (nN μw))))]) h dX11_bestWill_61 rfl (by decide) rfl ?_
          refine g_iload h dX11_bestWill_63 4 rfl ?_
          refine g_ifN_eq h dX11_bestWill_65 (by omega) (fun c65 => ?_) (fun c65 => ?_)
          ·
            refine g_iload h dX11_bestWill_74 4 rfl ?_
            refine g_istore_n (L' := [(0, .ref (w.1 12)), (1, .int (nI (toN i))), (2, .int (nI wl)), (3, .int (nI few)), (4, .int (nI wl)), (5, .int (nI (smC μw (nN μw))))]) h dX11_bestWill_76 rfl (by decide) rfl ?_
            refine g_iload h dX11_bestWill_77 5 rfl ?_
            refine g_istore_n (L' := [(0, .ref (w.1 12)), (1, .int (nI (toN i))), (2, .int (nI wl)), (3, .int (nI (smC μw (nN μw)))), (4, .int (nI wl)), (5, .int (nI (smC μw (nN μw))))]) h dX11_bestWill_79 rfl (by decide) rfl ?_
            refine g_iincN (b := 1) (L' := [(0, .ref (w.1 12)), (1, .int (nI (toN i))), (2, .int (nI wl)), (3, .int (nI (smC μw (nN μw)))), (4, .int (nI (wl + 1))), (5, .int (nI (smC μw (nN μw))))]) h dX11_bestWill_80 4 rfl rfl (by decide) (by decide) rfl ?_
            refine g_goto h dX11_bestWill_83 ?_
            exact g_sub [0, 1, 2, 3, 4] rfl (ih32 wl (smC μw (nN μw)) (wl + 1) μw σ_4 (by omega) (by intro _; first | (rw [bw_1 (Or.inl (by omega))]; simp only [hsm]; done) | (rw [bw_1 (Or.inr (by rw [← hB (by omega)]; show _ < few; omega))]; simp only [hsm]; done) | (rw [bw_0 (by rw [← hB (by omega)]; show ¬ (wl = 0 ∨ _ < few); omega)]; exact hB (by omega)) | fail) (by intro y; rw [eμw, upd_upd]; exact hU y) (by omega) (by exact hIw) (by first | exact hvσ_4 | assumption | fail | fail) (by first | exact hvσ_4 | assumption | fail | fail) (by first | exact ht14000_σ_4 | assumption | fail | fail) (by first | exact hcLD_σ_4 | assumption | fail | fail) (by first | exact hcFR_σ_4 | assumption | fail | fail) (by omega))
          ·
            refine g_iload h dX11_bestWill_68 5 rfl ?_
            refine g_iload_n h dX11_bestWill_70 3 rfl ?_
            refine g_icmpN_ge h dX11_bestWill_71 (by omega) (by omega) (fun c71 => ?_) (fun c71 => ?_)
            ·
              refine g_iincN (b := 1) (L' := [(0, .ref (w.1 12)), (1, .int (nI (toN i))), (2, .int (nI best)), (3, .int (nI few)), (4, .int (nI (wl + 1))), (5, .int (nI (smC μw (nN μw))))]) h dX11_bestWill_80 4 rfl rfl (by decide) (by decide) rfl ?_
              refine g_goto h dX11_bestWill_83 ?_
              exact g_sub [0, 1, 2, 3, 4] rfl (ih32 best few (wl + 1) μw σ_4 (by omega) (by intro _; first | (rw [bw_1 (Or.inl (by omega))]; simp only [hsm]; done) | (rw [bw_1 (Or.inr (by rw [← hB (by omega)]; show _ < few; omega))]; simp only [hsm]; done) | (rw [bw_0 (by rw [← hB (by omega)]; show ¬ (wl = 0 ∨ _ < few); omega)]; exact hB (by omega)) | fail) (by intro y; rw [eμw, upd_upd]; exact hU y) (by omega) (by exact hIw) (by first | exact hvσ_4 | assumption | fail | fail) (by first | exact hvσ_4 | assumption | fail | fail) (by first | exact ht14000_σ_4 | assumption | fail | fail) (by first | exact hcLD_σ_4 | assumption | fail | fail) (by first | exact hcFR_σ_4 | assumption | fail | fail) (by omega))
            ·
              refine g_iload h dX11_bestWill_74 4 rfl ?_
              refine g_istore_n (L' := [(0, .ref (w.1 12)), (1, .int (nI (toN i))), (2, .int (nI wl)), (3, .int (nI few)), (4, .int (nI wl)), (5, .int (nI (smC μw (nN μw))))]) h dX11_bestWill_76 rfl (by decide) rfl ?_
              refine g_iload h dX11_bestWill_77 5 rfl ?_
              refine g_istore_n (L' := [(0, .ref (w.1 12)), (1, .int (nI (toN i))), (2, .int (nI wl)), (3, .int (nI (smC μw (nN μw)))), (4, .int (nI wl)), (5, .int (nI (smC μw (nN μw))))]) h dX11_bestWill_79 rfl (by decide) rfl ?_
              refine g_iincN (b := 1) (L' := [(0, .ref (w.1 12)), (1, .int (nI (toN i))), (2, .int (nI wl)), (3, .int (nI (smC μw (nN μw)))), (4, .int (nI (wl + 1))), (5, .int (nI (smC μw (nN μw))))]) h dX11_bestWill_80 4 rfl rfl (by decide) (by decide) rfl ?_
              refine g_goto h dX11_bestWill_83 ?_
              exact g_sub [0, 1, 2, 3, 4] rfl (ih32 wl (smC μw (nN μw)) (wl + 1) μw σ_4 (by omega) (by intro _; first | (rw [bw_1 (Or.inl (by omega))]; simp only [hsm]; done) | (rw [bw_1 (Or.inr (by rw [← hB (by omega)]; show _ < few; omega))]; simp only [hsm]; done) | (rw [bw_0 (by rw [← hB (by omega)]; show ¬ (wl = 0 ∨ _ < few); omega)]; exact hB (by omega)) | fail) (by intro y; rw [eμw, upd_upd]; exact hU y) (by omega) (by exact hIw) (by first | exact hvσ_4 | assumption | fail | fail) (by first | exact hvσ_4 | assumption | fail | fail) (by first | exact ht14000_σ_4 | assumption | fail | fail) (by first | exact hcLD_σ_4 | assumption | fail | fail) (by first | exact hcFR_σ_4 | assumption | fail | fail) (by omega))
    exact lp32 (_) 0 0 0 μk σ_2 (by omega) (by omega) (by intro y; rw [eμk]) (by omega) (by rw [eμk]; exact hI) (by first | exact hvσ_2 | assumption | fail | fail) (by first | exact hvσ_2 | assumption | fail | fail) (by first | exact ht14000_σ_2 | assumption | fail | fail) (by first | exact hcLD_σ_2 | assumption | fail | fail) (by first | exact hcFR_σ_2 | assumption | fail | fail) (Nat.lt_succ_self _)
  ·
    refine g_iconstv h dX11_bestWill_12 (v := (-1)) (by decide) ?_
    exact g_iret h hQ dX11_bestWill_13 (congrArg (fun z => some (Value.int z)) (show (an (ns μ i) (nI (bwS μ (toN i) 8).1)) = (-1) by first | exact an_yes hns (by rw [show (8 : Nat) = wl from by omega, ← hB (by omega)]) | exact an_no (k := (ns μ i)) rfl (nb1 c9) | fail)) (by exact ⟨(by first | exact tk_eq (k := (ns μ i)) rfl ht14000_σ_1 | exact ht14000_σ_1 | fail), (by first | exact ⟨μ1, hw, hjz1⟩ | exact ⟨μ1, by assumption, hjz1⟩ | exact ⟨μ2, by assumption, fun a h1 h2 => by have q := congrFun (hU (nI 0)) a; rw [upd_ne (by omega), upd_ne (by omega)] at q; rw [q]; exact hjz a h1 h2⟩ | fail), (by exact hcFR_σ_1)⟩)
