/-! what calls answer: checks first -/
def toN (k : Int32) : Nat := k.toNatClampNeg
def an (s : Nat) (v : Int32) : Int32 := if s = 0 then v else -1
def rg (x a b : Int32) : Nat := if (decide (a ≤ x) && decide (x ≤ b)) = true then 0 else 1
def nB (μ : Nat → Int32) (k : Int32) : Bool := decide (0 ≤ k) && decide (k < μ 0)
def ns (μ : Nat → Int32) (k : Int32) : Nat := if nB μ k = true then 0 else 2
def ps (μ : Nat → Int32) (a b : Int32) : Nat := if (nB μ a && nB μ b) = true then (if a = b then 3 else 0) else 2
def fo (a b : Nat) : Nat := if a = 0 then b else a
def offB (μ : Nat → Int32) (k : Int32) : Bool := nB μ k && !tb (μ 1) (toN k)
def ofS (μ : Nat → Int32) (k : Int32) : Nat := if offB μ k = true then 4 else 0
def gst (μ : Nat → Int32) (a b : Int32) : Nat := fo (ps μ a b) (ofS μ a)
def sB (μ : Nat → Int32) (s : Int32) : Nat := rg s (nI 0) (bt1 (nN μ) - nI 1)
theorem rg_lt {x a b : Int32} : rg x a b < 100 := by
  unfold rg
  split <;> decide
theorem ns_lt {μ : Nat → Int32} {k : Int32} : ns μ k < 100 := by
  unfold ns
  split <;> decide
theorem ps_lt {μ : Nat → Int32} {a b : Int32} : ps μ a b < 100 := by
  unfold ps
  split
  · split <;> decide
  · decide
theorem fo_lt {a b : Nat} (ha : a < 100) (hb : b < 100) : fo a b < 100 := by
  unfold fo
  split
  · exact hb
  · exact ha
theorem ofS_lt {μ : Nat → Int32} {k : Int32} : ofS μ k < 100 := by
  unfold ofS
  split <;> decide
theorem gst_lt {μ : Nat → Int32} {a b : Int32} : gst μ a b < 100 := fo_lt ps_lt ofS_lt
theorem if_lt {c : Prop} [Decidable c] {a b : Nat} (ha : a < 100) (hb : b < 100) : (if c then a else b) < 100 := by
  split
  · exact ha
  · exact hb
theorem rg_lo {x a b : Int32} (h : x < a) : rg x a b = 1 := by
  unfold rg
  rw [decide_eq_false (Int32.not_le.mpr h)]
  rfl
theorem rg_hi {x a b : Int32} (h : ¬ x ≤ b) : rg x a b = 1 := by
  unfold rg
  rw [decide_eq_false h, Bool.and_false]
  rfl
theorem rg_in {x a b : Int32} (h1 : ¬ x < a) (h2 : x ≤ b) : rg x a b = 0 := by
  unfold rg
  rw [decide_eq_true (Int32.not_lt.mp h1), decide_eq_true h2]
  rfl
theorem fo_0 {a b : Nat} (h : fo a b = 0) : a = 0 ∧ b = 0 := by
  unfold fo at h
  split at h
  · rename_i c
    exact ⟨c, h⟩
  · rename_i c
    exact absurd h c
theorem fo_l {a b : Nat} (h : a ≠ 0) : fo a b = a := by
  unfold fo
  rw [if_neg h]
theorem fo_r {a b : Nat} (h : a = 0) : fo a b = b := by
  unfold fo
  rw [if_pos h]
theorem nb0 {x : Nat} (h : (!decide (x = 0)) = false) : x = 0 := by simpa using h
theorem nb1 {x : Nat} (h : (!decide (x = 0)) = true) : x ≠ 0 := by simpa using h
theorem ns_0 {μ : Nat → Int32} {k : Int32} (h : ns μ k = 0) : nB μ k = true := by
  unfold ns at h
  split at h
  · rename_i c; exact c
  · cases h
theorem ps_0 {μ : Nat → Int32} {a b : Int32} (h : ps μ a b = 0) : nB μ a = true ∧ nB μ b = true ∧ a ≠ b := by
  unfold ps at h
  split at h
  · rename_i c
    rw [Bool.and_eq_true] at c
    split at h
    · cases h
    · rename_i c2
      exact ⟨c.1, c.2, c2⟩
  · cases h
theorem i32_N {k : Int32} (h : 0 ≤ k) : k = nI (toN k) := by
  have h0 : (0 : Int) ≤ k.toInt := by
    have := Int32.le_iff_toInt_le.mp h
    simpa using this
  apply Int32.toInt_inj.mp
  have hb : k.toInt < 2147483648 := by
    have := Int32.toInt_lt k
    simpa using this
  have e : ((toN k : Nat) : Int) = k.toInt := by
    show ((k.toInt.toNat : Nat) : Int) = k.toInt
    omega
  rw [nI_toInt (by omega)]
  exact e.symm
theorem nB_N {μ : Nat → Int32} {k : Int32} (hI : MI μ) (h : nB μ k = true) : k = nI (toN k) ∧ toN k < nN μ := by
  unfold nB at h
  simp only [Bool.and_eq_true, decide_eq_true_eq] at h
  have e := i32_N h.1
  have h8 := mi_8 hI
  refine ⟨e, ?_⟩
  have h2 := h.2
  rw [mi_0 hI] at h2
  have hb : toN k < 2 ^ 31 := by
    show k.toInt.toNat < 2 ^ 31
    have := Int32.toInt_lt k
    omega
  rw [e] at h2
  exact (nI_ltq hb (by omega)).mp h2
theorem fr_N {x : Int32} {n : Nat} (hn : n < 2 ^ 31) (h : (decide (nI 0 ≤ x) && decide (x ≤ nI n)) = true) : x = nI (toN x) ∧ toN x ≤ n := by
  simp only [Bool.and_eq_true, decide_eq_true_eq] at h
  have e := i32_N h.1
  refine ⟨e, ?_⟩
  have h2 := h.2
  have hb : toN x < 2 ^ 31 := by
    show x.toInt.toNat < 2 ^ 31
    have := Int32.toInt_lt x
    omega
  rw [e] at h2
  exact (nI_leq hb hn).mp h2
theorem rg_N {x : Int32} {n : Nat} (hn : n < 2 ^ 31) (h : rg x (nI 0) (nI n) = 0) : x = nI (toN x) ∧ toN x ≤ n := by
  unfold rg at h
  split at h
  · rename_i c; exact fr_N hn c
  · cases h
theorem eN_ne {a b : Int32} (ha : a = nI (toN a)) (hb : b = nI (toN b)) (h : a ≠ b) : toN a ≠ toN b := fun e => h (by rw [ha, hb, e])

set_option maxRecDepth 100000 in
set_option maxHeartbeats 4000000 in
theorem c_rg {l : Launch} {w : Wd} (hW : Wi w) {σ : Mem} (x a b : Int32)  : MC l w qX11_rangeStatus 0 [.int x, .int a, .int b] σ (some (.int (nI (rg x a b)))) (fun σ' => σ' = σ) := by
  refine MC.of hW (by decide +kernel) (Nat.le_of_ble_eq_true rfl) (fun X h hQ hnm => ?_)
  have h : Fx X w cX11_rangeStatus 3 RX11 0 := h
  have hQ : Qx X w (some .int) (some (.int (nI (rg x a b)))) (fun σ' => σ' = σ) := hQ
  show G X w 3 0 [(0, .int x), (1, .int a), (2, .int b)] [] σ
  refine g_iload_n h dX11_rangeStatus_0 0 rfl ?_
  refine g_iload_n h dX11_rangeStatus_1 1 rfl ?_
  refine g_icmp_lt h dX11_rangeStatus_2 (fun c2 => ?_) (fun c2 => ?_)
  ·
    refine g_iconst h dX11_rangeStatus_10 (by decide) ?_
    refine g_goto h dX11_rangeStatus_11 ?_
    exact g_iret h hQ dX11_rangeStatus_15 (congrArg (fun z => some (Value.int z)) (show (nI (rg x a b)) = (nI 1) by first | exact congrArg nI (rg_in c2 c7) | exact congrArg nI (rg_hi c7) | exact congrArg nI (rg_lo c2) | fail)) rfl
  ·
    refine g_iload_n h dX11_rangeStatus_5 0 rfl ?_
    refine g_iload_n h dX11_rangeStatus_6 2 rfl ?_
    refine g_icmp_le h dX11_rangeStatus_7 (fun c7 => ?_) (fun c7 => ?_)
    ·
      refine g_iconst h dX11_rangeStatus_14 (by decide) ?_
      exact g_iret h hQ dX11_rangeStatus_15 (congrArg (fun z => some (Value.int z)) (show (nI (rg x a b)) = (nI 0) by first | exact congrArg nI (rg_in c2 c7) | exact congrArg nI (rg_hi c7) | exact congrArg nI (rg_lo c2) | fail)) rfl
    ·
      refine g_iconst h dX11_rangeStatus_10 (by decide) ?_
      refine g_goto h dX11_rangeStatus_11 ?_
      exact g_iret h hQ dX11_rangeStatus_15 (congrArg (fun z => some (Value.int z)) (show (nI (rg x a b)) = (nI 1) by first | exact congrArg nI (rg_in c2 c7) | exact congrArg nI (rg_hi c7) | exact congrArg nI (rg_lo c2) | fail)) rfl

set_option maxRecDepth 100000 in
set_option maxHeartbeats 4000000 in
theorem c_fo {l : Launch} {w : Wd} (hW : Wi w) {σ : Mem} (a b : Nat) (ha : a < 100) (hb : b < 100) : MC l w qX11_firstOf 0 [.int (nI a), .int (nI b)] σ (some (.int (nI (fo a b)))) (fun σ' => σ' = σ) := by
  refine MC.of hW (by decide +kernel) (Nat.le_of_ble_eq_true rfl) (fun X h hQ hnm => ?_)
  have h : Fx X w cX11_firstOf 2 RX11 0 := h
  have hQ : Qx X w (some .int) (some (.int (nI (fo a b)))) (fun σ' => σ' = σ) := hQ
  show G X w 2 0 [(0, .int (nI a)), (1, .int (nI b))] [] σ
  refine g_iload_n h dX11_firstOf_0 0 rfl ?_
  refine g_ifN_eq h dX11_firstOf_1 (by omega) (fun c1 => ?_) (fun c1 => ?_)
  ·
    refine g_iload_n h dX11_firstOf_8 1 rfl ?_
    exact g_iret h hQ dX11_firstOf_9 (congrArg (fun z => some (Value.int z)) (show (nI (fo a b)) = (nI b) by simp [fo, c1])) rfl
  ·
    refine g_iload_n h dX11_firstOf_4 0 rfl ?_
    refine g_goto h dX11_firstOf_5 ?_
    exact g_iret h hQ dX11_firstOf_9 (congrArg (fun z => some (Value.int z)) (show (nI (fo a b)) = (nI a) by simp [fo, c1])) rfl

set_option maxRecDepth 100000 in
set_option maxHeartbeats 4000000 in
theorem c_ns {l : Launch} {w : Wd} (hW : Wi w) {σ : Mem} (k : Int32) (μ : Nat → Int32) (hv : vw (vb 0) σ = μ) : MC l w qX11_nodeStatus 1 [.ref (w.1 0), .int k] σ (some (.int (nI (ns μ k)))) (fun σ' => σ' = σ) := by
  refine MC.of hW (by decide +kernel) (Nat.le_of_ble_eq_true rfl) (fun X h hQ hnm => ?_)
  have h : Fx X w cX11_nodeStatus 2 RX11 1 := h
  have hQ : Qx X w (some .int) (some (.int (nI (ns μ k)))) (fun σ' => σ' = σ) := hQ
  show G X w 2 0 [(0, .ref (w.1 0)), (1, .int k)] [] σ
  refine g_aload_n h dX11_nodeStatus_0 0 rfl ?_
  refine g_getr h dX11_nodeStatus_1 gX11_23 sc_0 rfl ?_
  refine g_iload_n h dX11_nodeStatus_4 1 rfl ?_
  refine g_cvpi (rest := []) h (c_isNode hW k 0 μ (by first | omega | decide | fail) (by first | exact hv | assumption | fail)) lX5_isNode mX11_386 (Nat.lt_of_lt_of_le (by decide) (Nat.le_refl _)) (by decide) (sM_0 (m := 0) (by decide)) rfl rfl rfl rfl dX11_nodeStatus_5 ?_
  refine g_ifB_eq h dX11_nodeStatus_8 (fun c8 => ?_) (fun c8 => ?_)
  ·
    refine g_iconst h dX11_nodeStatus_15 (by decide) ?_
    exact g_iret h hQ dX11_nodeStatus_16 (congrArg (fun z => some (Value.int z)) (show (nI (ns μ k)) = (nI 2) by simp [ns, nB, c8])) rfl
  ·
    refine g_iconst h dX11_nodeStatus_11 (by decide) ?_
    refine g_goto h dX11_nodeStatus_12 ?_
    exact g_iret h hQ dX11_nodeStatus_16 (congrArg (fun z => some (Value.int z)) (show (nI (ns μ k)) = (nI 0) by simp [ns, nB, c8])) rfl

set_option maxRecDepth 100000 in
set_option maxHeartbeats 4000000 in
theorem c_ps {l : Launch} {w : Wd} (hW : Wi w) {σ : Mem} (a b : Int32) (μ : Nat → Int32) (hv : vw (vb 0) σ = μ) : MC l w qX11_pairStatus 1 [.ref (w.1 0), .int a, .int b] σ (some (.int (nI (ps μ a b)))) (fun σ' => σ' = σ) := by
  refine MC.of hW (by decide +kernel) (Nat.le_of_ble_eq_true rfl) (fun X h hQ hnm => ?_)
  have h : Fx X w cX11_pairStatus 3 RX11 1 := h
  have hQ : Qx X w (some .int) (some (.int (nI (ps μ a b)))) (fun σ' => σ' = σ) := hQ
  show G X w 3 0 [(0, .ref (w.1 0)), (1, .int a), (2, .int b)] [] σ
  refine g_aload_n h dX11_pairStatus_0 0 rfl ?_
  refine g_getr h dX11_pairStatus_1 gX11_23 sc_0 rfl ?_
  refine g_iload_n h dX11_pairStatus_4 1 rfl ?_
  refine g_cvpi (rest := []) h (c_isNode hW a 0 μ (by first | omega | decide | fail) (by first | exact hv | assumption | fail)) lX5_isNode mX11_386 (Nat.lt_of_lt_of_le (by decide) (Nat.le_refl _)) (by decide) (sM_0 (m := 0) (by decide)) rfl rfl rfl rfl dX11_pairStatus_5 ?_
  refine g_ifB_eq h dX11_pairStatus_8 (fun c8 => ?_) (fun c8 => ?_)
  ·
    refine g_iconst h dX11_pairStatus_22 (by decide) ?_
    exact g_iret h hQ dX11_pairStatus_23 (congrArg (fun z => some (Value.int z)) (show (nI (ps μ a b)) = (nI 2) by simp [ps, nB, c8])) rfl
  ·
    refine g_aload_n h dX11_pairStatus_11 0 rfl ?_
    refine g_getr h dX11_pairStatus_12 gX11_23 sc_0 rfl ?_
    refine g_iload_n h dX11_pairStatus_15 2 rfl ?_
    refine g_cvpi (rest := []) h (c_isNode hW b 0 μ (by first | omega | decide | fail) (by first | exact hv | assumption | fail)) lX5_isNode mX11_386 (Nat.lt_of_lt_of_le (by decide) (Nat.le_refl _)) (by decide) (sM_0 (m := 0) (by decide)) rfl rfl rfl rfl dX11_pairStatus_16 ?_
    refine g_ifB_ne h dX11_pairStatus_19 (fun c19 => ?_) (fun c19 => ?_)
    ·
      refine g_iload_n h dX11_pairStatus_24 1 rfl ?_
      refine g_iload_n h dX11_pairStatus_25 2 rfl ?_
      refine g_icmp_ne h dX11_pairStatus_26 (fun c26 => ?_) (fun c26 => ?_)
      ·
        refine g_iconst h dX11_pairStatus_33 (by decide) ?_
        exact g_iret h hQ dX11_pairStatus_34 (congrArg (fun z => some (Value.int z)) (show (nI (ps μ a b)) = (nI 0) by simp [ps, nB, c8, c19, c26])) rfl
      ·
        refine g_iconst h dX11_pairStatus_29 (by decide) ?_
        refine g_goto h dX11_pairStatus_30 ?_
        exact g_iret h hQ dX11_pairStatus_34 (congrArg (fun z => some (Value.int z)) (show (nI (ps μ a b)) = (nI 3) by simp [ps, nB, c8, c19, c26])) rfl
    ·
      refine g_iconst h dX11_pairStatus_22 (by decide) ?_
      exact g_iret h hQ dX11_pairStatus_23 (congrArg (fun z => some (Value.int z)) (show (nI (ps μ a b)) = (nI 2) by simp [ps, nB, c8, c19])) rfl

set_option maxRecDepth 100000 in
set_option maxHeartbeats 4000000 in
theorem c_fails {l : Launch} {w : Wd} (hW : Wi w) {σ : Mem} (y : Nat) (hy : y < 100) : MC l w qX11_fails 0 [.ref (w.1 0), .int (nI y)] σ (some (.int (b2i (!decide (y = 0))))) (fun σ' => (σ' 14000 = (nI y)) ∧ (∀ a, (a ≠ 14000) → σ' a = σ a)) := by
  refine MC.of hW (by decide +kernel) (Nat.le_of_ble_eq_true rfl) (fun X h hQ hnm => ?_)
  have h : Fx X w cX11_fails 2 RX11 0 := h
  have hQ : Qx X w (some .boolean) (some (.int (b2i (!decide (y = 0))))) (fun σ' => (σ' 14000 = (nI y)) ∧ (∀ a, (a ≠ 14000) → σ' a = σ a)) := hQ
  have hcFR_σ : ∀ a, (a ≠ 14000) → σ a = σ a := fun _ _ => rfl
  show G X w 2 0 [(0, .ref (w.1 0)), (1, .int (nI y))] [] σ
  refine g_aload_n h dX11_fails_0 0 rfl ?_
  refine g_iload_n h dX11_fails_1 1 rfl ?_
  refine g_puti h dX11_fails_2 pX11_92 sc_0 rfl ?_
  refine g_nm (fun σ_1 eσ_1 => ?_)
  have eσ_1 : σ_1 = upd σ 14000 (nI y) := eσ_1
  have ht14000_σ_1 : σ_1 14000 = (nI y) := by rw [eσ_1]; exact upd_eq
  have hcFR_σ_1 : ∀ a, (a ≠ 14000) → σ_1 a = σ a := by intro a ha; exact Eq.trans (b := σ a) (by rw [eσ_1, upd_ne (by first | omega | (simp only [vb] at *; omega))]) (hcFR_σ a ha)
  refine g_iload_n h dX11_fails_5 1 rfl ?_
  refine g_ifN_eq h dX11_fails_6 (by omega) (fun c6 => ?_) (fun c6 => ?_)
  ·
    refine g_iconst h dX11_fails_13 (by decide) ?_
    exact g_zret h hQ dX11_fails_14 (show narrow .boolean (.int (b2i false)) = .int (b2i false) from narrow_b2i _) (congrArg (fun z => some (Value.int (b2i z))) (show (!decide (y = 0)) = false by simp [c6])) (by exact ⟨(by first | exact ht14000_σ_1 | assumption | fail), (by exact hcFR_σ_1)⟩)
  ·
    refine g_iconst h dX11_fails_9 (by decide) ?_
    refine g_goto h dX11_fails_10 ?_
    exact g_zret h hQ dX11_fails_14 (show narrow .boolean (.int (b2i true)) = .int (b2i true) from narrow_b2i _) (congrArg (fun z => some (Value.int (b2i z))) (show (!decide (y = 0)) = true by simp [c6])) (by exact ⟨(by first | exact ht14000_σ_1 | assumption | fail), (by exact hcFR_σ_1)⟩)

set_option maxRecDepth 100000 in
set_option maxHeartbeats 4000000 in
theorem c_asN {l : Launch} {w : Wd} (hW : Wi w) {σ : Mem} (p : Bool)  : MC l w qX11_asNumber 0 [.int (b2i p)] σ (some (.int (b2i p))) (fun σ' => σ' = σ) := by
  refine MC.of hW (by decide +kernel) (Nat.le_of_ble_eq_true rfl) (fun X h hQ hnm => ?_)
  have h : Fx X w cX11_asNumber 1 RX11 0 := h
  have hQ : Qx X w (some .int) (some (.int (b2i p))) (fun σ' => σ' = σ) := hQ
  show G X w 1 0 [(0, .int (b2i p))] [] σ
  refine g_iload_n h dX11_asNumber_0 0 rfl ?_
  refine g_ifB_eq h dX11_asNumber_1 (fun c1 => ?_) (fun c1 => ?_)
  ·
    refine g_iconst h dX11_asNumber_8 (by decide) ?_
    exact g_zret h hQ dX11_asNumber_9 (show narrow .boolean (.int (b2i false)) = .int (b2i false) from narrow_b2i _) (congrArg (fun z => some (Value.int (b2i z))) (show p = false by rw [c1])) rfl
  ·
    refine g_iconst h dX11_asNumber_4 (by decide) ?_
    refine g_goto h dX11_asNumber_5 ?_
    exact g_zret h hQ dX11_asNumber_9 (show narrow .boolean (.int (b2i true)) = .int (b2i true) from narrow_b2i _) (congrArg (fun z => some (Value.int (b2i z))) (show p = true by rw [c1])) rfl
/-! what calls answer: nodes, links, topologies -/
theorem an_no {s k : Nat} {v : Int32} (h : s = k) (hk : k ≠ 0) : an s v = -1 := by
  unfold an
  rw [if_neg (by omega)]
theorem an_yes {s : Nat} {v c : Int32} (h : s = 0) (hv : v = c) : an s v = c := by
  unfold an
  rw [if_pos h, hv]
theorem tk_eq {x : Int32} {s k : Nat} (h : s = k) (hx : x = nI k) : x = nI s := by rw [hx, h]
def v_node (μ : Nat → Int32) (i wt : Nat) : Int32 := if wt = 0 then b2i (tb (μ 1) i) else if wt = 1 then μ (16 + i) else if wt = 2 then μ (32 + i) else if wt = 3 then μ (56 + i) else if wt = 4 then μ (64 + i) else if wt = 5 then bhd μ i else if wt = 6 then μ (48 + i) else if wt = 7 then μ (72 + i) else if wt = 8 then μ (40 + i) else μ (24 + i)
def v_link (μ : Nat → Int32) (i j wt : Nat) : Int32 := if wt = 0 then μ (80 + (8 * i + j)) else if wt = 1 then b2i (tb (μ (56 + i)) j) else if wt = 2 then b2i (tb (μ (64 + i)) j) else if wt = 3 then μ (144 + (8 * i + j)) else if wt = 4 then b2i (tb (μ (72 + i)) j) else μ (208 + (8 * j + i))

set_option maxRecDepth 100000 in
set_option maxHeartbeats 4000000 in
theorem p_node {l : Launch} {w : Wd} (hW : Wi w) {σ : Mem} (i : Int32) (wt : Int32)  (μ : Nat → Int32) (hv : vw (vb 0) σ = μ) (hI : MI μ) : MC l w qX11_node 3 [.ref (w.1 0), .int i, .int wt] σ (some (.int (an (fo (rg wt (nI 0) (nI 9)) (ns μ i)) (v_node μ (toN i) (toN wt))))) (fun σ' => (σ' 14000 = (nI (fo (rg wt (nI 0) (nI 9)) (ns μ i)))) ∧ (∀ a, (a < 14900 ∧ a ≠ 14000) → σ' a = σ a)) := by
  refine MC.of hW (by decide +kernel) (Nat.le_of_ble_eq_true rfl) (fun X h hQ hnm => ?_)
  have h : Fx X w cX11_node 3 RX11 3 := h
  have hQ : Qx X w (some .int) (some (.int (an (fo (rg wt (nI 0) (nI 9)) (ns μ i)) (v_node μ (toN i) (toN wt))))) (fun σ' => (σ' 14000 = (nI (fo (rg wt (nI 0) (nI 9)) (ns μ i)))) ∧ (∀ a, (a < 14900 ∧ a ≠ 14000) → σ' a = σ a)) := hQ
  have hN8 := mi_8 hI
  have hcFR_σ : ∀ a, (a < 14900 ∧ a ≠ 14000) → σ a = σ a := fun _ _ => rfl
  show G X w 3 0 [(0, .ref (w.1 0)), (1, .int i), (2, .int wt)] [] σ
  refine g_aload_n h dX11_node_0 0 rfl ?_
  refine g_iload_n h dX11_node_1 2 rfl ?_
  refine g_iconst h dX11_node_2 (by decide) ?_
  refine g_bipush h dX11_node_3 (by decide) ?_
  refine g_cspi (rest := [.ref (w.1 0)]) h (c_rg hW wt (nI 0) (nI 9) ) lX11_rangeStatus mX11_102 (Nat.lt_of_lt_of_le (by decide) (Nat.le_refl _)) (by decide) rfl rfl rfl dX11_node_5 ?_
  refine g_aload_n h dX11_node_8 0 rfl ?_
  refine g_iload_n h dX11_node_9 1 rfl ?_
  refine g_cvpi (rest := [.int (nI (rg wt (nI 0) (nI 9))), .ref (w.1 0)]) h (c_ns hW i μ (by first | exact hv | assumption | fail)) lX11_nodeStatus mX11_159 (Nat.lt_of_lt_of_le (by decide) (Nat.le_refl _)) (by decide) sc_0 rfl rfl rfl rfl dX11_node_10 ?_
  refine g_cspi (rest := [.ref (w.1 0)]) h (c_fo hW (rg wt (nI 0) (nI 9)) (ns μ i) (by repeat (first | omega | exact rg_lt | exact ns_lt | exact ps_lt | exact gst_lt | exact ofS_lt | exact if_lt (by decide) (by decide) | apply fo_lt)) (by repeat (first | omega | exact rg_lt | exact ns_lt | exact ps_lt | exact gst_lt | exact ofS_lt | exact if_lt (by decide) (by decide) | apply fo_lt))) lX11_firstOf mX11_163 (Nat.lt_of_lt_of_le (by decide) (Nat.le_refl _)) (by decide) rfl rfl rfl dX11_node_13 ?_
  refine g_cvi (rest := []) h (c_fails hW (fo (rg wt (nI 0) (nI 9)) (ns μ i)) (by repeat (first | omega | exact rg_lt | exact ns_lt | exact ps_lt | exact gst_lt | exact ofS_lt | exact if_lt (by decide) (by decide) | apply fo_lt))) lX11_fails mX11_106 (Nat.lt_of_lt_of_le (by decide) (Nat.le_refl _)) (by decide) sc_0 rfl rfl rfl rfl dX11_node_16 (fun σ_1 eσ_1 => ?_)
  obtain ⟨eσ_1_a, eσ_1_b⟩ := eσ_1
  have eσ_1_a : σ_1 14000 = (nI (fo (rg wt (nI 0) (nI 9)) (ns μ i))) := eσ_1_a
  have eσ_1_b : ∀ a, (a ≠ 14000) → σ_1 a = σ a := eσ_1_b
  have ht14000_σ_1 : σ_1 14000 = (nI (fo (rg wt (nI 0) (nI 9)) (ns μ i))) := eσ_1_a
  have hcFR_σ_1 : ∀ a, (a < 14900 ∧ a ≠ 14000) → σ_1 a = σ a := by intro a ha; exact Eq.trans (b := σ a) (eσ_1_b a (by first | omega | (simp only [vb] at *; omega))) (hcFR_σ a ha)
  have hvσ_1 : vw (vb 0) σ_1 = μ := by rw [vw_fr (σ := σ) (fun j _ _ => eσ_1_b _ (by first | omega | (simp only [vb] at *; omega)))]; first | exact hv | assumption
  refine g_ifB_eq h dX11_node_19 (fun c19 => ?_) (fun c19 => ?_)
  ·
    have hS0 := nb0 c19
    obtain ⟨hs1, hs2⟩ := fo_0 hS0
    obtain ⟨ew, hw9⟩ := rg_N (by decide) hs1
    obtain ⟨ei, hi9⟩ := nB_N hI (ns_0 hs2)
    rw [ei, ew]
    show G X w 3 24 [(0, .ref (w.1 0)), (1, .int (nI (toN i))), (2, .int (nI (toN wt)))] [] σ_1
    refine g_iload_n h dX11_node_24 2 rfl ?_
    rcases (show toN wt = 0 ∨ toN wt = 1 ∨ toN wt = 2 ∨ toN wt = 3 ∨ toN wt = 4 ∨ toN wt = 5 ∨ toN wt = 6 ∨ toN wt = 7 ∨ toN wt = 8 ∨ toN wt = 9 by omega) with hc25 | hc25 | hc25 | hc25 | hc25 | hc25 | hc25 | hc25 | hc25 | hc25
    ·
      refine g_tsw (off := 51) (tgt := 76) h dX11_node_25 (nI 0) (by rw [hc25]) (by decide) (by decide) (by decide +kernel) (by decide) ?_
      refine g_aload_n h dX11_node_76 0 rfl ?_
      refine g_getr h dX11_node_77 gX11_23 sc_0 rfl ?_
      refine g_iload_n h dX11_node_80 1 rfl ?_
      refine g_cvpi (rest := []) h (c_isOnJ hW (toN i) 0 μ (by first | omega | decide | fail) (by first | exact hvσ_1 | assumption | fail) (by assumption) (by omega)) lX5_isOn mX11_167 (Nat.lt_of_lt_of_le (by decide) (Nat.le_refl _)) (by decide) (sM_0 (m := 0) (by decide)) rfl rfl rfl rfl dX11_node_81 ?_
      refine g_cspi (rest := []) h (c_asN hW (tb (μ 1) (toN i)) ) lX11_asNumber mX11_170 (Nat.lt_of_lt_of_le (by decide) (Nat.le_refl _)) (by decide) rfl rfl rfl dX11_node_84 ?_
      exact g_iret h hQ dX11_node_87 (congrArg (fun z => some (Value.int z)) (show (an (fo (rg wt (nI 0) (nI 9)) (ns μ i)) (v_node μ (toN i) (toN wt))) = (b2i (tb (μ 1) (toN i))) by first | exact an_yes (by exact hS0) (by first | rfl | (simp [v_node, c19, hc25]; done) | (simp [v_node, c19, hc25]; rfl)) | exact an_no (k := (fo (rg wt (nI 0) (nI 9)) (ns μ i))) (by first | rfl | (simp [fo, rg, ns, nB, ps, gst, ofS, offB, c19, hc25]; done) | (simp [fo, rg, ns, nB, ps, gst, ofS, offB, c19, hc25]; omega)) (by first | decide | omega | assumption | exact nb1 (by assumption)) | fail)) (by exact ⟨(by first | exact tk_eq (k := (fo (rg wt (nI 0) (nI 9)) (ns μ i))) (by first | rfl | (simp [fo, rg, ns, nB, ps, gst, ofS, offB, c19, hc25]; done) | (simp [fo, rg, ns, nB, ps, gst, ofS, offB, c19, hc25]; omega)) ht14000_σ_1 | exact tk_eq (k := (fo (rg wt (nI 0) (nI 9)) (ns μ i))) (by exact hS0) ht14000_σ_1 | fail), (by exact hcFR_σ_1)⟩)
    ·
      refine g_tsw (off := 63) (tgt := 88) h dX11_node_25 (nI 1) (by rw [hc25]) (by decide) (by decide) (by decide +kernel) (by decide) ?_
      refine g_aload_n h dX11_node_88 0 rfl ?_
      refine g_getr h dX11_node_89 gX11_23 sc_0 rfl ?_
      refine g_getr h dX11_node_92 gX11_174 (sM_0 (m := 0) (by decide)) rfl ?_
      refine g_iload_n h dX11_node_95 1 rfl ?_
      refine g_iald h dX11_node_96 (sM_1 (m := 0) (by decide)) (by omega) ?_
      refine g_top (y := μ (16 + (toN i))) (vw_pic (b := (vb 0)) (k := 16 + (toN i)) (by first | exact hvσ_1 | assumption) (by omega)) ?_
      exact g_iret h hQ dX11_node_97 (congrArg (fun z => some (Value.int z)) (show (an (fo (rg wt (nI 0) (nI 9)) (ns μ i)) (v_node μ (toN i) (toN wt))) = (μ (16 + (toN i))) by first | exact an_yes (by exact hS0) (by first | rfl | (simp [v_node, c19, hc25]; done) | (simp [v_node, c19, hc25]; rfl)) | exact an_no (k := (fo (rg wt (nI 0) (nI 9)) (ns μ i))) (by first | rfl | (simp [fo, rg, ns, nB, ps, gst, ofS, offB, c19, hc25]; done) | (simp [fo, rg, ns, nB, ps, gst, ofS, offB, c19, hc25]; omega)) (by first | decide | omega | assumption | exact nb1 (by assumption)) | fail)) (by exact ⟨(by first | exact tk_eq (k := (fo (rg wt (nI 0) (nI 9)) (ns μ i))) (by first | rfl | (simp [fo, rg, ns, nB, ps, gst, ofS, offB, c19, hc25]; done) | (simp [fo, rg, ns, nB, ps, gst, ofS, offB, c19, hc25]; omega)) ht14000_σ_1 | exact tk_eq (k := (fo (rg wt (nI 0) (nI 9)) (ns μ i))) (by exact hS0) ht14000_σ_1 | fail), (by exact hcFR_σ_1)⟩)
    ·
      refine g_tsw (off := 73) (tgt := 98) h dX11_node_25 (nI 2) (by rw [hc25]) (by decide) (by decide) (by decide +kernel) (by decide) ?_
      refine g_aload_n h dX11_node_98 0 rfl ?_
      refine g_getr h dX11_node_99 gX11_23 sc_0 rfl ?_
      refine g_getr h dX11_node_102 gX11_135 (sM_0 (m := 0) (by decide)) rfl ?_
      refine g_getr h dX11_node_105 gX11_178 (sM_11 (m := 0) (by decide)) rfl ?_
      refine g_iload_n h dX11_node_108 1 rfl ?_
      refine g_iald h dX11_node_109 (sM_15 (m := 0) (by decide)) (by omega) ?_
      refine g_top (y := μ (32 + (toN i))) (vw_pic (b := (vb 0)) (k := 32 + (toN i)) (by first | exact hvσ_1 | assumption) (by omega)) ?_
      exact g_iret h hQ dX11_node_110 (congrArg (fun z => some (Value.int z)) (show (an (fo (rg wt (nI 0) (nI 9)) (ns μ i)) (v_node μ (toN i) (toN wt))) = (μ (32 + (toN i))) by first | exact an_yes (by exact hS0) (by first | rfl | (simp [v_node, c19, hc25]; done) | (simp [v_node, c19, hc25]; rfl)) | exact an_no (k := (fo (rg wt (nI 0) (nI 9)) (ns μ i))) (by first | rfl | (simp [fo, rg, ns, nB, ps, gst, ofS, offB, c19, hc25]; done) | (simp [fo, rg, ns, nB, ps, gst, ofS, offB, c19, hc25]; omega)) (by first | decide | omega | assumption | exact nb1 (by assumption)) | fail)) (by exact ⟨(by first | exact tk_eq (k := (fo (rg wt (nI 0) (nI 9)) (ns μ i))) (by first | rfl | (simp [fo, rg, ns, nB, ps, gst, ofS, offB, c19, hc25]; done) | (simp [fo, rg, ns, nB, ps, gst, ofS, offB, c19, hc25]; omega)) ht14000_σ_1 | exact tk_eq (k := (fo (rg wt (nI 0) (nI 9)) (ns μ i))) (by exact hS0) ht14000_σ_1 | fail), (by exact hcFR_σ_1)⟩)
    ·
      refine g_tsw (off := 86) (tgt := 111) h dX11_node_25 (nI 3) (by rw [hc25]) (by decide) (by decide) (by decide +kernel) (by decide) ?_
      refine g_aload_n h dX11_node_111 0 rfl ?_
      refine g_getr h dX11_node_112 gX11_23 sc_0 rfl ?_
      refine g_getr h dX11_node_115 gX11_181 (sM_0 (m := 0) (by decide)) rfl ?_
      refine g_getr h dX11_node_118 gX11_185 (sM_4 (m := 0) (by decide)) rfl ?_
      refine g_iload_n h dX11_node_121 1 rfl ?_
      refine g_iald h dX11_node_122 (sM_7 (m := 0) (by decide)) (by omega) ?_
      refine g_top (y := μ (56 + (toN i))) (vw_pic (b := (vb 0)) (k := 56 + (toN i)) (by first | exact hvσ_1 | assumption) (by omega)) ?_
      exact g_iret h hQ dX11_node_123 (congrArg (fun z => some (Value.int z)) (show (an (fo (rg wt (nI 0) (nI 9)) (ns μ i)) (v_node μ (toN i) (toN wt))) = (μ (56 + (toN i))) by first | exact an_yes (by exact hS0) (by first | rfl | (simp [v_node, c19, hc25]; done) | (simp [v_node, c19, hc25]; rfl)) | exact an_no (k := (fo (rg wt (nI 0) (nI 9)) (ns μ i))) (by first | rfl | (simp [fo, rg, ns, nB, ps, gst, ofS, offB, c19, hc25]; done) | (simp [fo, rg, ns, nB, ps, gst, ofS, offB, c19, hc25]; omega)) (by first | decide | omega | assumption | exact nb1 (by assumption)) | fail)) (by exact ⟨(by first | exact tk_eq (k := (fo (rg wt (nI 0) (nI 9)) (ns μ i))) (by first | rfl | (simp [fo, rg, ns, nB, ps, gst, ofS, offB, c19, hc25]; done) | (simp [fo, rg, ns, nB, ps, gst, ofS, offB, c19, hc25]; omega)) ht14000_σ_1 | exact tk_eq (k := (fo (rg wt (nI 0) (nI 9)) (ns μ i))) (by exact hS0) ht14000_σ_1 | fail), (by exact hcFR_σ_1)⟩)
    ·
      refine g_tsw (off := 99) (tgt := 124) h dX11_node_25 (nI 4) (by rw [hc25]) (by decide) (by decide) (by decide +kernel) (by decide) ?_
      refine g_aload_n h dX11_node_124 0 rfl ?_
      refine g_getr h dX11_node_125 gX11_23 sc_0 rfl ?_
      refine g_getr h dX11_node_128 gX11_181 (sM_0 (m := 0) (by decide)) rfl ?_
      refine g_getr h dX11_node_131 gX11_190 (sM_4 (m := 0) (by decide)) rfl ?_
      refine g_iload_n h dX11_node_134 1 rfl ?_
      refine g_iald h dX11_node_135 (sM_8 (m := 0) (by decide)) (by omega) ?_
      refine g_top (y := μ (64 + (toN i))) (vw_pic (b := (vb 0)) (k := 64 + (toN i)) (by first | exact hvσ_1 | assumption) (by omega)) ?_
      exact g_iret h hQ dX11_node_136 (congrArg (fun z => some (Value.int z)) (show (an (fo (rg wt (nI 0) (nI 9)) (ns μ i)) (v_node μ (toN i) (toN wt))) = (μ (64 + (toN i))) by first | exact an_yes (by exact hS0) (by first | rfl | (simp [v_node, c19, hc25]; done) | (simp [v_node, c19, hc25]; rfl)) | exact an_no (k := (fo (rg wt (nI 0) (nI 9)) (ns μ i))) (by first | rfl | (simp [fo, rg, ns, nB, ps, gst, ofS, offB, c19, hc25]; done) | (simp [fo, rg, ns, nB, ps, gst, ofS, offB, c19, hc25]; omega)) (by first | decide | omega | assumption | exact nb1 (by assumption)) | fail)) (by exact ⟨(by first | exact tk_eq (k := (fo (rg wt (nI 0) (nI 9)) (ns μ i))) (by first | rfl | (simp [fo, rg, ns, nB, ps, gst, ofS, offB, c19, hc25]; done) | (simp [fo, rg, ns, nB, ps, gst, ofS, offB, c19, hc25]; omega)) ht14000_σ_1 | exact tk_eq (k := (fo (rg wt (nI 0) (nI 9)) (ns μ i))) (by exact hS0) ht14000_σ_1 | fail), (by exact hcFR_σ_1)⟩)
    ·
      refine g_tsw (off := 112) (tgt := 137) h dX11_node_25 (nI 5) (by rw [hc25]) (by decide) (by decide) (by decide +kernel) (by decide) ?_
      refine g_aload_n h dX11_node_137 0 rfl ?_
      refine g_getr h dX11_node_138 gX11_23 sc_0 rfl ?_
      refine g_iload_n h dX11_node_141 1 rfl ?_
      refine g_cspi (rest := []) h (c_behind hW (toN i) 0 μ (by first | omega | decide | fail) (by first | exact hvσ_1 | assumption | fail) (by assumption) (by omega)) lX0_behind mX11_193 (Nat.lt_of_lt_of_le (by decide) (Nat.le_refl _)) (by decide) rfl rfl rfl dX11_node_142 ?_
      exact g_iret h hQ dX11_node_145 (congrArg (fun z => some (Value.int z)) (show (an (fo (rg wt (nI 0) (nI 9)) (ns μ i)) (v_node μ (toN i) (toN wt))) = (bhd μ (toN i)) by first | exact an_yes (by exact hS0) (by first | rfl | (simp [v_node, c19, hc25]; done) | (simp [v_node, c19, hc25]; rfl)) | exact an_no (k := (fo (rg wt (nI 0) (nI 9)) (ns μ i))) (by first | rfl | (simp [fo, rg, ns, nB, ps, gst, ofS, offB, c19, hc25]; done) | (simp [fo, rg, ns, nB, ps, gst, ofS, offB, c19, hc25]; omega)) (by first | decide | omega | assumption | exact nb1 (by assumption)) | fail)) (by exact ⟨(by first | exact tk_eq (k := (fo (rg wt (nI 0) (nI 9)) (ns μ i))) (by first | rfl | (simp [fo, rg, ns, nB, ps, gst, ofS, offB, c19, hc25]; done) | (simp [fo, rg, ns, nB, ps, gst, ofS, offB, c19, hc25]; omega)) ht14000_σ_1 | exact tk_eq (k := (fo (rg wt (nI 0) (nI 9)) (ns μ i))) (by exact hS0) ht14000_σ_1 | fail), (by exact hcFR_σ_1)⟩)
    ·
      refine g_tsw (off := 121) (tgt := 146) h dX11_node_25 (nI 6) (by rw [hc25]) (by decide) (by decide) (by decide +kernel) (by decide) ?_
      refine g_aload_n h dX11_node_146 0 rfl ?_
      refine g_getr h dX11_node_147 gX11_23 sc_0 rfl ?_
      refine g_getr h dX11_node_150 gX11_181 (sM_0 (m := 0) (by decide)) rfl ?_
      refine g_getr h dX11_node_153 gX11_197 (sM_4 (m := 0) (by decide)) rfl ?_
      refine g_iload_n h dX11_node_156 1 rfl ?_
      refine g_iald h dX11_node_157 (sM_10 (m := 0) (by decide)) (by omega) ?_
      refine g_top (y := μ (48 + (toN i))) (vw_pic (b := (vb 0)) (k := 48 + (toN i)) (by first | exact hvσ_1 | assumption) (by omega)) ?_
      exact g_iret h hQ dX11_node_158 (congrArg (fun z => some (Value.int z)) (show (an (fo (rg wt (nI 0) (nI 9)) (ns μ i)) (v_node μ (toN i) (toN wt))) = (μ (48 + (toN i))) by first | exact an_yes (by exact hS0) (by first | rfl | (simp [v_node, c19, hc25]; done) | (simp [v_node, c19, hc25]; rfl)) | exact an_no (k := (fo (rg wt (nI 0) (nI 9)) (ns μ i))) (by first | rfl | (simp [fo, rg, ns, nB, ps, gst, ofS, offB, c19, hc25]; done) | (simp [fo, rg, ns, nB, ps, gst, ofS, offB, c19, hc25]; omega)) (by first | decide | omega | assumption | exact nb1 (by assumption)) | fail)) (by exact ⟨(by first | exact tk_eq (k := (fo (rg wt (nI 0) (nI 9)) (ns μ i))) (by first | rfl | (simp [fo, rg, ns, nB, ps, gst, ofS, offB, c19, hc25]; done) | (simp [fo, rg, ns, nB, ps, gst, ofS, offB, c19, hc25]; omega)) ht14000_σ_1 | exact tk_eq (k := (fo (rg wt (nI 0) (nI 9)) (ns μ i))) (by exact hS0) ht14000_σ_1 | fail), (by exact hcFR_σ_1)⟩)
    ·
      refine g_tsw (off := 134) (tgt := 159) h dX11_node_25 (nI 7) (by rw [hc25]) (by decide) (by decide) (by decide +kernel) (by decide) ?_
      refine g_aload_n h dX11_node_159 0 rfl ?_
      refine g_getr h dX11_node_160 gX11_23 sc_0 rfl ?_
      refine g_getr h dX11_node_163 gX11_181 (sM_0 (m := 0) (by decide)) rfl ?_
      refine g_getr h dX11_node_166 gX11_200 (sM_4 (m := 0) (by decide)) rfl ?_
      refine g_iload_n h dX11_node_169 1 rfl ?_
      refine g_iald h dX11_node_170 (sM_9 (m := 0) (by decide)) (by omega) ?_
      refine g_top (y := μ (72 + (toN i))) (vw_pic (b := (vb 0)) (k := 72 + (toN i)) (by first | exact hvσ_1 | assumption) (by omega)) ?_
      exact g_iret h hQ dX11_node_171 (congrArg (fun z => some (Value.int z)) (show (an (fo (rg wt (nI 0) (nI 9)) (ns μ i)) (v_node μ (toN i) (toN wt))) = (μ (72 + (toN i))) by first | exact an_yes (by exact hS0) (by first | rfl | (simp [v_node, c19, hc25]; done) | (simp [v_node, c19, hc25]; rfl)) | exact an_no (k := (fo (rg wt (nI 0) (nI 9)) (ns μ i))) (by first | rfl | (simp [fo, rg, ns, nB, ps, gst, ofS, offB, c19, hc25]; done) | (simp [fo, rg, ns, nB, ps, gst, ofS, offB, c19, hc25]; omega)) (by first | decide | omega | assumption | exact nb1 (by assumption)) | fail)) (by exact ⟨(by first | exact tk_eq (k := (fo (rg wt (nI 0) (nI 9)) (ns μ i))) (by first | rfl | (simp [fo, rg, ns, nB, ps, gst, ofS, offB, c19, hc25]; done) | (simp [fo, rg, ns, nB, ps, gst, ofS, offB, c19, hc25]; omega)) ht14000_σ_1 | exact tk_eq (k := (fo (rg wt (nI 0) (nI 9)) (ns μ i))) (by exact hS0) ht14000_σ_1 | fail), (by exact hcFR_σ_1)⟩)
    ·
      refine g_tsw (off := 147) (tgt := 172) h dX11_node_25 (nI 8) (by rw [hc25]) (by decide) (by decide) (by decide +kernel) (by decide) ?_
      refine g_aload_n h dX11_node_172 0 rfl ?_
      refine g_getr h dX11_node_173 gX11_23 sc_0 rfl ?_
      refine g_getr h dX11_node_176 gX11_135 (sM_0 (m := 0) (by decide)) rfl ?_
      refine g_getr h dX11_node_179 gX11_203 (sM_11 (m := 0) (by decide)) rfl ?_
      refine g_iload_n h dX11_node_182 1 rfl ?_
      refine g_iald h dX11_node_183 (sM_16 (m := 0) (by decide)) (by omega) ?_
      refine g_top (y := μ (40 + (toN i))) (vw_pic (b := (vb 0)) (k := 40 + (toN i)) (by first | exact hvσ_1 | assumption) (by omega)) ?_
      exact g_iret h hQ dX11_node_184 (congrArg (fun z => some (Value.int z)) (show (an (fo (rg wt (nI 0) (nI 9)) (ns μ i)) (v_node μ (toN i) (toN wt))) = (μ (40 + (toN i))) by first | exact an_yes (by exact hS0) (by first | rfl | (simp [v_node, c19, hc25]; done) | (simp [v_node, c19, hc25]; rfl)) | exact an_no (k := (fo (rg wt (nI 0) (nI 9)) (ns μ i))) (by first | rfl | (simp [fo, rg, ns, nB, ps, gst, ofS, offB, c19, hc25]; done) | (simp [fo, rg, ns, nB, ps, gst, ofS, offB, c19, hc25]; omega)) (by first | decide | omega | assumption | exact nb1 (by assumption)) | fail)) (by exact ⟨(by first | exact tk_eq (k := (fo (rg wt (nI 0) (nI 9)) (ns μ i))) (by first | rfl | (simp [fo, rg, ns, nB, ps, gst, ofS, offB, c19, hc25]; done) | (simp [fo, rg, ns, nB, ps, gst, ofS, offB, c19, hc25]; omega)) ht14000_σ_1 | exact tk_eq (k := (fo (rg wt (nI 0) (nI 9)) (ns μ i))) (by exact hS0) ht14000_σ_1 | fail), (by exact hcFR_σ_1)⟩)
    ·
      refine g_tswOut (tgt := 185) h dX11_node_25 (by rw [hc25]; decide) (by decide) ?_
      refine g_aload_n h dX11_node_185 0 rfl ?_
      refine g_getr h dX11_node_186 gX11_23 sc_0 rfl ?_
      refine g_getr h dX11_node_189 gX11_206 (sM_0 (m := 0) (by decide)) rfl ?_
      refine g_iload_n h dX11_node_192 1 rfl ?_
      refine g_iald h dX11_node_193 (sM_2 (m := 0) (by decide)) (by omega) ?_
      refine g_top (y := μ (24 + (toN i))) (vw_pic (b := (vb 0)) (k := 24 + (toN i)) (by first | exact hvσ_1 | assumption) (by omega)) ?_
      exact g_iret h hQ dX11_node_194 (congrArg (fun z => some (Value.int z)) (show (an (fo (rg wt (nI 0) (nI 9)) (ns μ i)) (v_node μ (toN i) (toN wt))) = (μ (24 + (toN i))) by first | exact an_yes (by exact hS0) (by first | rfl | (simp [v_node, c19, hc25]; done) | (simp [v_node, c19, hc25]; rfl)) | exact an_no (k := (fo (rg wt (nI 0) (nI 9)) (ns μ i))) (by first | rfl | (simp [fo, rg, ns, nB, ps, gst, ofS, offB, c19, hc25]; done) | (simp [fo, rg, ns, nB, ps, gst, ofS, offB, c19, hc25]; omega)) (by first | decide | omega | assumption | exact nb1 (by assumption)) | fail)) (by exact ⟨(by first | exact tk_eq (k := (fo (rg wt (nI 0) (nI 9)) (ns μ i))) (by first | rfl | (simp [fo, rg, ns, nB, ps, gst, ofS, offB, c19, hc25]; done) | (simp [fo, rg, ns, nB, ps, gst, ofS, offB, c19, hc25]; omega)) ht14000_σ_1 | exact tk_eq (k := (fo (rg wt (nI 0) (nI 9)) (ns μ i))) (by exact hS0) ht14000_σ_1 | fail), (by exact hcFR_σ_1)⟩)
  ·
    refine g_iconstv h dX11_node_22 (v := (-1)) (by decide) ?_
    exact g_iret h hQ dX11_node_23 (congrArg (fun z => some (Value.int z)) (show (an (fo (rg wt (nI 0) (nI 9)) (ns μ i)) (v_node μ (toN i) (toN wt))) = (-1) by first | exact an_yes (by exact hS0) (by first | rfl | (simp [v_node, c19]; done) | (simp [v_node, c19]; rfl)) | exact an_no (k := (fo (rg wt (nI 0) (nI 9)) (ns μ i))) (by first | rfl | (simp [fo, rg, ns, nB, ps, gst, ofS, offB, c19]; done) | (simp [fo, rg, ns, nB, ps, gst, ofS, offB, c19]; omega)) (by first | decide | omega | assumption | exact nb1 (by assumption)) | fail)) (by exact ⟨(by first | exact tk_eq (k := (fo (rg wt (nI 0) (nI 9)) (ns μ i))) (by first | rfl | (simp [fo, rg, ns, nB, ps, gst, ofS, offB, c19]; done) | (simp [fo, rg, ns, nB, ps, gst, ofS, offB, c19]; omega)) ht14000_σ_1 | exact tk_eq (k := (fo (rg wt (nI 0) (nI 9)) (ns μ i))) (by exact hS0) ht14000_σ_1 | fail), (by exact hcFR_σ_1)⟩)
