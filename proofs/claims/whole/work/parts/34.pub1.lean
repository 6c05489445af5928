/-! what calls answer: checks first -/
def toN (k : Int32) : Nat := k.toNatClampNeg
def an (s : Nat) (v : Int32) : Int32 := if s = 0 then v else -1
def rg (x a b : Int32) : Nat := if (decide (a ≤ x) && decide (x ≤ b)) = true then 0 else 1
def nB (μ : Nat → Int32) (k : Int32) : Bool := decide (0 ≤ k) && decide (k < μ 0)
def ns (μ : Nat → Int32) (k : Int32) : Nat := if nB μ k = true then 0 else 2
def ps (μ : Nat → Int32) (a b : Int32) : Nat := if (nB μ a && nB μ b) = true then (if a = b then 3 else 0) else 2
def fo (a b : Nat) : Nat := if a = 0 then b else a
def offB (μ : Nat → Int32) (k : Int32) : Bool := nB μ k && !tb (μ 1) (toN k)
def ofS (μ : Nat → Int32) (k : Int32) : Nat := if offB μ k = true then 4 else 0
def gst (μ : Nat → Int32) (a b : Int32) : Nat := fo (ps μ a b) (ofS μ a)
def sB (μ : Nat → Int32) (s : Int32) : Nat := rg s (nI 0) (bt1 (nN μ) - nI 1)
theorem rg_lt {x a b : Int32} : rg x a b < 100 := by
  unfold rg
  split <;> decide
theorem ns_lt {μ : Nat → Int32} {k : Int32} : ns μ k < 100 := by
  unfold ns
  split <;> decide
theorem ps_lt {μ : Nat → Int32} {a b : Int32} : ps μ a b < 100 := by
  unfold ps
  split
  · split <;> decide
  · decide
theorem fo_lt {a b : Nat} (ha : a < 100) (hb : b < 100) : fo a b < 100 := by
  unfold fo
  split
  · exact hb
  · exact ha
theorem ofS_lt {μ : Nat → Int32} {k : Int32} : ofS μ k < 100 := by
  unfold ofS
  split <;> decide
theorem gst_lt {μ : Nat → Int32} {a b : Int32} : gst μ a b < 100 := fo_lt ps_lt ofS_lt
theorem if_lt {c : Prop} [Decidable c] {a b : Nat} (ha : a < 100) (hb : b < 100) : (if c then a else b) < 100 := by
  split
  · exact ha
  · exact hb
theorem rg_or {n : Nat} (x : Int32) (hn : n < 2 ^ 31) : (rg x (nI 0) (nI n) = 0 ∧ x = nI (toN x) ∧ toN x ≤ n) ∨ (rg x (nI 0) (nI n) = 1 ∧ (x.toInt < 0 ∨ (n : Int) < x.toInt)) := by
  by_cases c : (decide (nI 0 ≤ x) && decide (x ≤ nI n)) = true
  · left
    refine ⟨by unfold rg; rw [if_pos c], ?_⟩
    simp only [Bool.and_eq_true, decide_eq_true_eq] at c
    have h0 : (0 : Int) ≤ x.toInt := by
      have := Int32.le_iff_toInt_le.mp c.1
      rwa [nI_toInt (by decide)] at this
    have h1 := Int32.le_iff_toInt_le.mp c.2
    rw [nI_toInt hn] at h1
    have e : ((toN x : Nat) : Int) = x.toInt := by
      show ((x.toInt.toNat : Nat) : Int) = x.toInt
      omega
    refine ⟨?_, by omega⟩
    apply Int32.toInt_inj.mp
    rw [nI_toInt (by omega)]
    exact e.symm
  · right
    refine ⟨by unfold rg; rw [if_neg c], ?_⟩
    simp only [Bool.and_eq_true, decide_eq_true_eq] at c
    rw [Int32.le_iff_toInt_le, Int32.le_iff_toInt_le, nI_toInt (by decide), nI_toInt hn] at c
    omega
theorem gst_0 {μ : Nat → Int32} {a b : Int32} (h : gst μ a b = 0) : nB μ a = true ∧ nB μ b = true ∧ a ≠ b ∧ tb (μ 1) (toN a) = true := by
  unfold gst at h
  have h1 : ps μ a b = 0 ∧ ofS μ a = 0 := by
    unfold fo at h
    split at h
    · rename_i c
      exact ⟨c, h⟩
    · rename_i c
      exact absurd h c
  have h2 : nB μ a = true ∧ nB μ b = true ∧ a ≠ b := by
    have h := h1.1
    unfold ps at h
    split at h
    · rename_i c
      rw [Bool.and_eq_true] at c
      split at h
      · cases h
      · rename_i c2
        exact ⟨c.1, c.2, c2⟩
    · cases h
  refine ⟨h2.1, h2.2.1, h2.2.2, ?_⟩
  have h3 := h1.2
  unfold ofS offB at h3
  rw [h2.1] at h3
  cases q : tb (μ 1) (toN a) with
  | true => rfl
  | false =>
    rw [q] at h3
    cases h3
theorem rg_lo {x a b : Int32} (h : x < a) : rg x a b = 1 := by
  unfold rg
  rw [decide_eq_false (Int32.not_le.mpr h)]
  rfl
theorem rg_hi {x a b : Int32} (h : ¬ x ≤ b) : rg x a b = 1 := by
  unfold rg
  rw [decide_eq_false h, Bool.and_false]
  rfl
theorem rg_in {x a b : Int32} (h1 : ¬ x < a) (h2 : x ≤ b) : rg x a b = 0 := by
  unfold rg
  rw [decide_eq_true (Int32.not_lt.mp h1), decide_eq_true h2]
  rfl
theorem fo_0 {a b : Nat} (h : fo a b = 0) : a = 0 ∧ b = 0 := by
  unfold fo at h
  split at h
  · rename_i c
    exact ⟨c, h⟩
  · rename_i c
    exact absurd h c
theorem fo_l {a b : Nat} (h : a ≠ 0) : fo a b = a := by
  unfold fo
  rw [if_neg h]
theorem fo_r {a b : Nat} (h : a = 0) : fo a b = b := by
  unfold fo
  rw [if_pos h]
theorem nb0 {x : Nat} (h : (!decide (x = 0)) = false) : x = 0 := by simpa using h
theorem nb1 {x : Nat} (h : (!decide (x = 0)) = true) : x ≠ 0 := by simpa using h
theorem ns_0 {μ : Nat → Int32} {k : Int32} (h : ns μ k = 0) : nB μ k = true := by
  unfold ns at h
  split at h
  · rename_i c; exact c
  · cases h
theorem ps_0 {μ : Nat → Int32} {a b : Int32} (h : ps μ a b = 0) : nB μ a = true ∧ nB μ b = true ∧ a ≠ b := by
  unfold ps at h
  split at h
  · rename_i c
    rw [Bool.and_eq_true] at c
    split at h
    · cases h
    · rename_i c2
      exact ⟨c.1, c.2, c2⟩
  · cases h
theorem i32_N {k : Int32} (h : 0 ≤ k) : k = nI (toN k) := by
  have h0 : (0 : Int) ≤ k.toInt := by
    have := Int32.le_iff_toInt_le.mp h
    simpa using this
  apply Int32.toInt_inj.mp
  have hb : k.toInt < 2147483648 := by
    have := Int32.toInt_lt k
    simpa using this
  have e : ((toN k : Nat) : Int) = k.toInt := by
    show ((k.toInt.toNat : Nat) : Int) = k.toInt
    omega
  rw [nI_toInt (by omega)]
  exact e.symm
theorem nB_N {μ : Nat → Int32} {k : Int32} (hI : MI μ) (h : nB μ k = true) : k = nI (toN k) ∧ toN k < nN μ := by
  unfold nB at h
  simp only [Bool.and_eq_true, decide_eq_true_eq] at h
  have e := i32_N h.1
  have h8 := mi_8 hI
  refine ⟨e, ?_⟩
  have h2 := h.2
  rw [mi_0 hI] at h2
  have hb : toN k < 2 ^ 31 := by
    show k.toInt.toNat < 2 ^ 31
    have := Int32.toInt_lt k
    omega
  rw [e] at h2
  exact (nI_ltq hb (by omega)).mp h2
theorem fr_N {x : Int32} {n : Nat} (hn : n < 2 ^ 31) (h : (decide (nI 0 ≤ x) && decide (x ≤ nI n)) = true) : x = nI (toN x) ∧ toN x ≤ n := by
  simp only [Bool.and_eq_true, decide_eq_true_eq] at h
  have e := i32_N h.1
  refine ⟨e, ?_⟩
  have h2 := h.2
  have hb : toN x < 2 ^ 31 := by
    show x.toInt.toNat < 2 ^ 31
    have := Int32.toInt_lt x
    omega
  rw [e] at h2
  exact (nI_leq hb hn).mp h2
theorem rg_N {x : Int32} {n : Nat} (hn : n < 2 ^ 31) (h : rg x (nI 0) (nI n) = 0) : x = nI (toN x) ∧ toN x ≤ n := by
  unfold rg at h
  split at h
  · rename_i c; exact fr_N hn c
  · cases h
theorem toN_nI {n : Nat} (h : n < 2 ^ 31) : toN (nI n) = n := nI_clamp h
theorem eN_ne {a b : Int32} (ha : a = nI (toN a)) (hb : b = nI (toN b)) (h : a ≠ b) : toN a ≠ toN b := fun e => h (by rw [ha, hb, e])

set_option maxRecDepth 100000 in
set_option maxHeartbeats 4000000 in
theorem c_rg {l : Launch} {w : Wd} (hW : Wi w) {σ : Mem} (x a b : Int32)  : MC l w qX11_rangeStatus 0 [.int x, .int a, .int b] σ (some (.int (nI (rg x a b)))) (fun σ' => σ' = σ) := by
  refine MC.of hW (by decide +kernel) (Nat.le_of_ble_eq_true rfl) (fun X h hQ hnm => ?_)
  have h : Fx X w cX11_rangeStatus 3 RX11 0 := h
  have hQ : Qx X w (some .int) (some (.int (nI (rg x a b)))) (fun σ' => σ' = σ) := hQ
  show G X w 3 0 [(0, .int x), (1, .int a), (2, .int b)] [] σ
  refine g_iload_n h dX11_rangeStatus_0 0 rfl ?_
  refine g_iload_n h dX11_rangeStatus_1 1 rfl ?_
  refine g_icmp_lt h dX11_rangeStatus_2 (fun c2 => ?_) (fun c2 => ?_)
  ·
    refine g_iconst h dX11_rangeStatus_10 (by decide) ?_
    refine g_goto h dX11_rangeStatus_11 ?_
    exact g_iret h hQ dX11_rangeStatus_15 (congrArg (fun z => some (Value.int z)) (show (nI (rg x a b)) = (nI 1) by first | exact congrArg nI (rg_in c2 c7) | exact congrArg nI (rg_hi c7) | exact congrArg nI (rg_lo c2) | fail)) rfl
  ·
    refine g_iload_n h dX11_rangeStatus_5 0 rfl ?_
    refine g_iload_n h dX11_rangeStatus_6 2 rfl ?_
    refine g_icmp_le h dX11_rangeStatus_7 (fun c7 => ?_) (fun c7 => ?_)
    ·
      refine g_iconst h dX11_rangeStatus_14 (by decide) ?_
      exact g_iret h hQ dX11_rangeStatus_15 (congrArg (fun z => some (Value.int z)) (show (nI (rg x a b)) = (nI 0) by first | exact congrArg nI (rg_in c2 c7) | exact congrArg nI (rg_hi c7) | exact congrArg nI (rg_lo c2) | fail)) rfl
    ·
      refine g_iconst h dX11_rangeStatus_10 (by decide) ?_
      refine g_goto h dX11_rangeStatus_11 ?_
      exact g_iret h hQ dX11_rangeStatus_15 (congrArg (fun z => some (Value.int z)) (show (nI (rg x a b)) = (nI 1) by first | exact congrArg nI (rg_in c2 c7) | exact congrArg nI (rg_hi c7) | exact congrArg nI (rg_lo c2) | fail)) rfl

set_option maxRecDepth 100000 in
set_option maxHeartbeats 4000000 in
theorem c_fo {l : Launch} {w : Wd} (hW : Wi w) {σ : Mem} (a b : Nat) (ha : a < 100) (hb : b < 100) : MC l w qX11_firstOf 0 [.int (nI a), .int (nI b)] σ (some (.int (nI (fo a b)))) (fun σ' => σ' = σ) := by
  refine MC.of hW (by decide +kernel) (Nat.le_of_ble_eq_true rfl) (fun X h hQ hnm => ?_)
  have h : Fx X w cX11_firstOf 2 RX11 0 := h
  have hQ : Qx X w (some .int) (some (.int (nI (fo a b)))) (fun σ' => σ' = σ) := hQ
  show G X w 2 0 [(0, .int (nI a)), (1, .int (nI b))] [] σ
  refine g_iload_n h dX11_firstOf_0 0 rfl ?_
  refine g_ifN_eq h dX11_firstOf_1 (by omega) (fun c1 => ?_) (fun c1 => ?_)
  ·
    refine g_iload_n h dX11_firstOf_8 1 rfl ?_
    exact g_iret h hQ dX11_firstOf_9 (congrArg (fun z => some (Value.int z)) (show (nI (fo a b)) = (nI b) by simp [fo, c1])) rfl
  ·
    refine g_iload_n h dX11_firstOf_4 0 rfl ?_
    refine g_goto h dX11_firstOf_5 ?_
    exact g_iret h hQ dX11_firstOf_9 (congrArg (fun z => some (Value.int z)) (show (nI (fo a b)) = (nI a) by simp [fo, c1])) rfl

set_option maxRecDepth 100000 in
set_option maxHeartbeats 4000000 in
theorem c_ns {l : Launch} {w : Wd} (hW : Wi w) {σ : Mem} (k : Int32) (μ : Nat → Int32) (hv : vw (vb 0) σ = μ) : MC l w qX11_nodeStatus 1 [.ref (w.1 12), .int k] σ (some (.int (nI (ns μ k)))) (fun σ' => σ' = σ) := by
  refine MC.of hW (by decide +kernel) (Nat.le_of_ble_eq_true rfl) (fun X h hQ hnm => ?_)
  have h : Fx X w cX11_nodeStatus 2 RX11 1 := h
  have hQ : Qx X w (some .int) (some (.int (nI (ns μ k)))) (fun σ' => σ' = σ) := hQ
  show G X w 2 0 [(0, .ref (w.1 12)), (1, .int k)] [] σ
  refine g_aload_n h dX11_nodeStatus_0 0 rfl ?_
  refine g_getr h dX11_nodeStatus_1 gX11_23 sc_12 rfl ?_
  refine g_iload_n h dX11_nodeStatus_4 1 rfl ?_
  refine g_cvpi (rest := []) h (c_isNode hW k 0 μ (by first | omega | decide | fail) (by first | exact hv | assumption | fail)) lX5_isNode mX11_386 (Nat.lt_of_lt_of_le (by decide) (Nat.le_refl _)) (by decide) (sM_0 (m := 0) (by decide)) rfl rfl rfl rfl dX11_nodeStatus_5 ?_
  refine g_ifB_eq h dX11_nodeStatus_8 (fun c8 => ?_) (fun c8 => ?_)
  ·
    refine g_iconst h dX11_nodeStatus_15 (by decide) ?_
    exact g_iret h hQ dX11_nodeStatus_16 (congrArg (fun z => some (Value.int z)) (show (nI (ns μ k)) = (nI 2) by simp [ns, nB, c8])) rfl
  ·
    refine g_iconst h dX11_nodeStatus_11 (by decide) ?_
    refine g_goto h dX11_nodeStatus_12 ?_
    exact g_iret h hQ dX11_nodeStatus_16 (congrArg (fun z => some (Value.int z)) (show (nI (ns μ k)) = (nI 0) by simp [ns, nB, c8])) rfl

set_option maxRecDepth 100000 in
set_option maxHeartbeats 4000000 in
theorem c_ps {l : Launch} {w : Wd} (hW : Wi w) {σ : Mem} (a b : Int32) (μ : Nat → Int32) (hv : vw (vb 0) σ = μ) : MC l w qX11_pairStatus 1 [.ref (w.1 12), .int a, .int b] σ (some (.int (nI (ps μ a b)))) (fun σ' => σ' = σ) := by
  refine MC.of hW (by decide +kernel) (Nat.le_of_ble_eq_true rfl) (fun X h hQ hnm => ?_)
  have h : Fx X w cX11_pairStatus 3 RX11 1 := h
  have hQ : Qx X w (some .int) (some (.int (nI (ps μ a b)))) (fun σ' => σ' = σ) := hQ
  show G X w 3 0 [(0, .ref (w.1 12)), (1, .int a), (2, .int b)] [] σ
  refine g_aload_n h dX11_pairStatus_0 0 rfl ?_
  refine g_getr h dX11_pairStatus_1 gX11_23 sc_12 rfl ?_
  refine g_iload_n h dX11_pairStatus_4 1 rfl ?_
  refine g_cvpi (rest := []) h (c_isNode hW a 0 μ (by first | omega | decide | fail) (by first | exact hv | assumption | fail)) lX5_isNode mX11_386 (Nat.lt_of_lt_of_le (by decide) (Nat.le_refl _)) (by decide) (sM_0 (m := 0) (by decide)) rfl rfl rfl rfl dX11_pairStatus_5 ?_
  refine g_ifB_eq h dX11_pairStatus_8 (fun c8 => ?_) (fun c8 => ?_)
  ·
    refine g_iconst h dX11_pairStatus_22 (by decide) ?_
    exact g_iret h hQ dX11_pairStatus_23 (congrArg (fun z => some (Value.int z)) (show (nI (ps μ a b)) = (nI 2) by simp [ps, nB, c8])) rfl
  ·
    refine g_aload_n h dX11_pairStatus_11 0 rfl ?_
    refine g_getr h dX11_pairStatus_12 gX11_23 sc_12 rfl ?_
    refine g_iload_n h dX11_pairStatus_15 2 rfl ?_
    refine g_cvpi (rest := []) h (c_isNode hW b 0 μ (by first | omega | decide | fail) (by first | exact hv | assumption | fail)) lX5_isNode mX11_386 (Nat.lt_of_lt_of_le (by decide) (Nat.le_refl _)) (by decide) (sM_0 (m := 0) (by decide)) rfl rfl rfl rfl dX11_pairStatus_16 ?_
    refine g_ifB_ne h dX11_pairStatus_19 (fun c19 => ?_) (fun c19 => ?_)
    ·
      refine g_iload_n h dX11_pairStatus_24 1 rfl ?_
      refine g_iload_n h dX11_pairStatus_25 2 rfl ?_
      refine g_icmp_ne h dX11_pairStatus_26 (fun c26 => ?_) (fun c26 => ?_)
      ·
        refine g_iconst h dX11_pairStatus_33 (by decide) ?_
        exact g_iret h hQ dX11_pairStatus_34 (congrArg (fun z => some (Value.int z)) (show (nI (ps μ a b)) = (nI 0) by simp [ps, nB, c8, c19, c26])) rfl
      ·
        refine g_iconst h dX11_pairStatus_29 (by decide) ?_
        refine g_goto h dX11_pairStatus_30 ?_
        exact g_iret h hQ dX11_pairStatus_34 (congrArg (fun z => some (Value.int z)) (show (nI (ps μ a b)) = (nI 3) by simp [ps, nB, c8, c19, c26])) rfl
    ·
      refine g_iconst h dX11_pairStatus_22 (by decide) ?_
      exact g_iret h hQ dX11_pairStatus_23 (congrArg (fun z => some (Value.int z)) (show (nI (ps μ a b)) = (nI 2) by simp [ps, nB, c8, c19])) rfl

set_option maxRecDepth 100000 in
set_option maxHeartbeats 4000000 in
theorem c_isOff {l : Launch} {w : Wd} (hW : Wi w) {σ : Mem} (k : Int32) (μ : Nat → Int32) (hv : vw (vb 0) σ = μ) (hI : MI μ) : MC l w qX11_isOff 2 [.ref (w.1 12), .int k] σ (some (.int (b2i (offB μ k)))) (fun σ' => σ' = σ) := by
  refine MC.of hW (by decide +kernel) (Nat.le_of_ble_eq_true rfl) (fun X h hQ hnm => ?_)
  have h : Fx X w cX11_isOff 2 RX11 2 := h
  have hQ : Qx X w (some .boolean) (some (.int (b2i (offB μ k)))) (fun σ' => σ' = σ) := hQ
  show G X w 2 0 [(0, .ref (w.1 12)), (1, .int k)] [] σ
  refine g_aload_n h dX11_isOff_0 0 rfl ?_
  refine g_getr h dX11_isOff_1 gX11_23 sc_12 rfl ?_
  refine g_iload_n h dX11_isOff_4 1 rfl ?_
  refine g_cvpi (rest := []) h (c_isNode hW k 0 μ (by first | omega | decide | fail) (by first | exact hv | assumption | fail)) lX5_isNode mX11_386 (Nat.lt_of_lt_of_le (by decide) (Nat.le_refl _)) (by decide) (sM_0 (m := 0) (by decide)) rfl rfl rfl rfl dX11_isOff_5 ?_
  refine g_ifB_eq h dX11_isOff_8 (fun c8 => ?_) (fun c8 => ?_)
  ·
    refine g_iconst h dX11_isOff_26 (by decide) ?_
    exact g_zret h hQ dX11_isOff_27 (show narrow .boolean (.int (b2i false)) = .int (b2i false) from narrow_b2i _) (congrArg (fun z => some (Value.int (b2i z))) (show (offB μ k) = false by simp [offB, nB, c8])) rfl
  ·
    obtain ⟨ek, hk⟩ := nB_N hI (show nB μ k = true from c8)
    rw [ek]
    show G X w 2 11 [(0, .ref (w.1 12)), (1, .int (nI (toN k)))] [] σ
    refine g_aload_n h dX11_isOff_11 0 rfl ?_
    refine g_getr h dX11_isOff_12 gX11_23 sc_12 rfl ?_
    refine g_iload_n h dX11_isOff_15 1 rfl ?_
    refine g_cvpi (rest := []) h (c_isOnJ hW (toN k) 0 μ (by first | omega | decide | fail) (by first | exact hv | assumption | fail) (by assumption) (by omega)) lX5_isOn mX11_167 (Nat.lt_of_lt_of_le (by decide) (Nat.le_refl _)) (by decide) (sM_0 (m := 0) (by decide)) rfl rfl rfl rfl dX11_isOff_16 ?_
    refine g_ifB_ne h dX11_isOff_19 (fun c19 => ?_) (fun c19 => ?_)
    ·
      refine g_iconst h dX11_isOff_26 (by decide) ?_
      exact g_zret h hQ dX11_isOff_27 (show narrow .boolean (.int (b2i false)) = .int (b2i false) from narrow_b2i _) (congrArg (fun z => some (Value.int (b2i z))) (show (offB μ k) = false by simp [offB, nB, c8, c19])) rfl
    ·
      refine g_iconst h dX11_isOff_22 (by decide) ?_
      refine g_goto h dX11_isOff_23 ?_
      exact g_zret h hQ dX11_isOff_27 (show narrow .boolean (.int (b2i true)) = .int (b2i true) from narrow_b2i _) (congrArg (fun z => some (Value.int (b2i z))) (show (offB μ k) = true by simp [offB, nB, c8, c19])) rfl

set_option maxRecDepth 100000 in
set_option maxHeartbeats 4000000 in
theorem c_gst {l : Launch} {w : Wd} (hW : Wi w) {σ : Mem} (a b : Int32) (μ : Nat → Int32) (hv : vw (vb 0) σ = μ) (hI : MI μ) : MC l w qX11_goingStatus 3 [.ref (w.1 12), .int a, .int b] σ (some (.int (nI (gst μ a b)))) (fun σ' => σ' = σ) := by
  refine MC.of hW (by decide +kernel) (Nat.le_of_ble_eq_true rfl) (fun X h hQ hnm => ?_)
  have h : Fx X w cX11_goingStatus 3 RX11 3 := h
  have hQ : Qx X w (some .int) (some (.int (nI (gst μ a b)))) (fun σ' => σ' = σ) := hQ
  show G X w 3 0 [(0, .ref (w.1 12)), (1, .int a), (2, .int b)] [] σ
  refine g_aload_n h dX11_goingStatus_0 0 rfl ?_
  refine g_iload_n h dX11_goingStatus_1 1 rfl ?_
  refine g_iload_n h dX11_goingStatus_2 2 rfl ?_
  refine g_cvpi (rest := []) h (c_ps hW a b μ (by first | exact hv | assumption | fail)) lX11_pairStatus mX11_209 (Nat.lt_of_lt_of_le (by decide) (Nat.le_refl _)) (by decide) sc_12 rfl rfl rfl rfl dX11_goingStatus_3 ?_
  have hps : ps μ a b < 100 := by unfold ps; split <;> (first | decide | (split <;> decide))
  refine g_aload_n h dX11_goingStatus_6 0 rfl ?_
  refine g_iload_n h dX11_goingStatus_7 1 rfl ?_
  refine g_cvpi (rest := [.int (nI (ps μ a b))]) h (c_isOff hW a μ (by first | exact hv | assumption | fail) (by assumption)) lX11_isOff mX11_302 (Nat.lt_of_lt_of_le (by decide) (Nat.le_refl _)) (by decide) sc_12 rfl rfl rfl rfl dX11_goingStatus_8 ?_
  refine g_ifB_eq h dX11_goingStatus_11 (fun c11 => ?_) (fun c11 => ?_)
  ·
    refine g_iconst h dX11_goingStatus_18 (by decide) ?_
    refine g_cspi (rest := []) h (c_fo hW (ps μ a b) 0 (by repeat (first | omega | exact rg_lt | exact ns_lt | exact ps_lt | exact gst_lt | exact ofS_lt | exact if_lt (by decide) (by decide) | apply fo_lt)) (by repeat (first | omega | exact rg_lt | exact ns_lt | exact ps_lt | exact gst_lt | exact ofS_lt | exact if_lt (by decide) (by decide) | apply fo_lt))) lX11_firstOf mX11_163 (Nat.lt_of_lt_of_le (by decide) (Nat.le_refl _)) (by decide) rfl rfl rfl dX11_goingStatus_19 ?_
    exact g_iret h hQ dX11_goingStatus_22 (congrArg (fun z => some (Value.int z)) (show (nI (gst μ a b)) = (nI (fo (ps μ a b) 0)) by simp [gst, ofS, c11])) rfl
  ·
    refine g_iconst h dX11_goingStatus_14 (by decide) ?_
    refine g_goto h dX11_goingStatus_15 ?_
    refine g_cspi (rest := []) h (c_fo hW (ps μ a b) 4 (by repeat (first | omega | exact rg_lt | exact ns_lt | exact ps_lt | exact gst_lt | exact ofS_lt | exact if_lt (by decide) (by decide) | apply fo_lt)) (by repeat (first | omega | exact rg_lt | exact ns_lt | exact ps_lt | exact gst_lt | exact ofS_lt | exact if_lt (by decide) (by decide) | apply fo_lt))) lX11_firstOf mX11_163 (Nat.lt_of_lt_of_le (by decide) (Nat.le_refl _)) (by decide) rfl rfl rfl dX11_goingStatus_19 ?_
    exact g_iret h hQ dX11_goingStatus_22 (congrArg (fun z => some (Value.int z)) (show (nI (gst μ a b)) = (nI (fo (ps μ a b) 4)) by simp [gst, ofS, c11])) rfl

set_option maxRecDepth 100000 in
set_option maxHeartbeats 4000000 in
theorem c_fails {l : Launch} {w : Wd} (hW : Wi w) {σ : Mem} (y : Nat) (hy : y < 100) : MC l w qX11_fails 0 [.ref (w.1 12), .int (nI y)] σ (some (.int (b2i (!decide (y = 0))))) (fun σ' => (σ' 14000 = (nI y)) ∧ (∀ a, (a ≠ 14000) → σ' a = σ a)) := by
  refine MC.of hW (by decide +kernel) (Nat.le_of_ble_eq_true rfl) (fun X h hQ hnm => ?_)
  have h : Fx X w cX11_fails 2 RX11 0 := h
  have hQ : Qx X w (some .boolean) (some (.int (b2i (!decide (y = 0))))) (fun σ' => (σ' 14000 = (nI y)) ∧ (∀ a, (a ≠ 14000) → σ' a = σ a)) := hQ
  have hcFR_σ : ∀ a, (a ≠ 14000) → σ a = σ a := fun _ _ => rfl
  show G X w 2 0 [(0, .ref (w.1 12)), (1, .int (nI y))] [] σ
  refine g_aload_n h dX11_fails_0 0 rfl ?_
  refine g_iload_n h dX11_fails_1 1 rfl ?_
  refine g_puti h dX11_fails_2 pX11_92 sc_12 rfl ?_
  refine g_nm (fun σ_1 eσ_1 => ?_)
  have eσ_1 : σ_1 = upd σ 14000 (nI y) := eσ_1
  have ht14000_σ_1 : σ_1 14000 = (nI y) := by rw [eσ_1]; exact upd_eq
  have hcFR_σ_1 : ∀ a, (a ≠ 14000) → σ_1 a = σ a := by intro a ha; exact Eq.trans (b := σ a) (by rw [eσ_1, upd_ne (by first | omega | (simp only [vb] at *; omega))]) (hcFR_σ a ha)
  refine g_iload_n h dX11_fails_5 1 rfl ?_
  refine g_ifN_eq h dX11_fails_6 (by omega) (fun c6 => ?_) (fun c6 => ?_)
  ·
    refine g_iconst h dX11_fails_13 (by decide) ?_
    exact g_zret h hQ dX11_fails_14 (show narrow .boolean (.int (b2i false)) = .int (b2i false) from narrow_b2i _) (congrArg (fun z => some (Value.int (b2i z))) (show (!decide (y = 0)) = false by simp [c6])) (by exact ⟨(by first | exact ht14000_σ_1 | assumption | fail), (by exact hcFR_σ_1)⟩)
  ·
    refine g_iconst h dX11_fails_9 (by decide) ?_
    refine g_goto h dX11_fails_10 ?_
    exact g_zret h hQ dX11_fails_14 (show narrow .boolean (.int (b2i true)) = .int (b2i true) from narrow_b2i _) (congrArg (fun z => some (Value.int (b2i z))) (show (!decide (y = 0)) = true by simp [c6])) (by exact ⟨(by first | exact ht14000_σ_1 | assumption | fail), (by exact hcFR_σ_1)⟩)

set_option maxRecDepth 100000 in
set_option maxHeartbeats 4000000 in
theorem c_asN {l : Launch} {w : Wd} (hW : Wi w) {σ : Mem} (p : Bool)  : MC l w qX11_asNumber 0 [.int (b2i p)] σ (some (.int (b2i p))) (fun σ' => σ' = σ) := by
  refine MC.of hW (by decide +kernel) (Nat.le_of_ble_eq_true rfl) (fun X h hQ hnm => ?_)
  have h : Fx X w cX11_asNumber 1 RX11 0 := h
  have hQ : Qx X w (some .int) (some (.int (b2i p))) (fun σ' => σ' = σ) := hQ
  show G X w 1 0 [(0, .int (b2i p))] [] σ
  refine g_iload_n h dX11_asNumber_0 0 rfl ?_
  refine g_ifB_eq h dX11_asNumber_1 (fun c1 => ?_) (fun c1 => ?_)
  ·
    refine g_iconst h dX11_asNumber_8 (by decide) ?_
    exact g_zret h hQ dX11_asNumber_9 (show narrow .boolean (.int (b2i false)) = .int (b2i false) from narrow_b2i _) (congrArg (fun z => some (Value.int (b2i z))) (show p = false by rw [c1])) rfl
  ·
    refine g_iconst h dX11_asNumber_4 (by decide) ?_
    refine g_goto h dX11_asNumber_5 ?_
    exact g_zret h hQ dX11_asNumber_9 (show narrow .boolean (.int (b2i true)) = .int (b2i true) from narrow_b2i _) (congrArg (fun z => some (Value.int (b2i z))) (show p = true by rw [c1])) rfl

set_option maxRecDepth 100000 in
set_option maxHeartbeats 4000000 in
theorem r_ps {l : Launch} {w : Wd} (hW : Wi w) {σ : Mem} (a b : Int32) (μ : Nat → Int32) (hv : vw 0 σ = μ) : MC l w qX12_wrongTwo 2 [.ref (w.1 0), .int a, .int b] σ (some (.int (nI (ps μ a b)))) (fun σ' => σ' = σ) := by
  refine MC.of hW (by decide +kernel) (Nat.le_of_ble_eq_true rfl) (fun X h hQ hnm => ?_)
  have h : Fx X w cX12_wrongTwo 3 RX12 2 := h
  have hQ : Qx X w (some .int) (some (.int (nI (ps μ a b)))) (fun σ' => σ' = σ) := hQ
  show G X w 3 0 [(0, .ref (w.1 0)), (1, .int a), (2, .int b)] [] σ
  refine g_aload_n h dX12_wrongTwo_0 0 rfl ?_
  refine g_iload_n h dX12_wrongTwo_1 1 rfl ?_
  refine g_cvpi (rest := []) h (r_isNode hW a μ (by first | exact hv | assumption | fail)) lX12_isNode mX12_287 (Nat.lt_of_lt_of_le (by decide) (Nat.le_refl _)) (by decide) sc_0 rfl rfl rfl rfl dX12_wrongTwo_2 ?_
  refine g_ifB_eq h dX12_wrongTwo_5 (fun c5 => ?_) (fun c5 => ?_)
  ·
    refine g_iconst h dX12_wrongTwo_16 (by decide) ?_
    refine g_goto h dX12_wrongTwo_17 ?_
    exact g_iret h hQ dX12_wrongTwo_30 (congrArg (fun z => some (Value.int z)) (show (nI (ps μ a b)) = (nI 2) by simp [ps, nB, c5])) rfl
  ·
    refine g_aload_n h dX12_wrongTwo_8 0 rfl ?_
    refine g_iload_n h dX12_wrongTwo_9 2 rfl ?_
    refine g_cvpi (rest := []) h (r_isNode hW b μ (by first | exact hv | assumption | fail)) lX12_isNode mX12_287 (Nat.lt_of_lt_of_le (by decide) (Nat.le_refl _)) (by decide) sc_0 rfl rfl rfl rfl dX12_wrongTwo_10 ?_
    refine g_ifB_ne h dX12_wrongTwo_13 (fun c13 => ?_) (fun c13 => ?_)
    ·
      refine g_iload_n h dX12_wrongTwo_20 1 rfl ?_
      refine g_iload_n h dX12_wrongTwo_21 2 rfl ?_
      refine g_icmp_ne h dX12_wrongTwo_22 (fun c22 => ?_) (fun c22 => ?_)
      ·
        refine g_iconst h dX12_wrongTwo_29 (by decide) ?_
        exact g_iret h hQ dX12_wrongTwo_30 (congrArg (fun z => some (Value.int z)) (show (nI (ps μ a b)) = (nI 0) by simp [ps, nB, c5, c13, c22])) rfl
      ·
        refine g_iconst h dX12_wrongTwo_25 (by decide) ?_
        refine g_goto h dX12_wrongTwo_26 ?_
        exact g_iret h hQ dX12_wrongTwo_30 (congrArg (fun z => some (Value.int z)) (show (nI (ps μ a b)) = (nI 3) by simp [ps, nB, c5, c13, c22])) rfl
    ·
      refine g_iconst h dX12_wrongTwo_16 (by decide) ?_
      refine g_goto h dX12_wrongTwo_17 ?_
      exact g_iret h hQ dX12_wrongTwo_30 (congrArg (fun z => some (Value.int z)) (show (nI (ps μ a b)) = (nI 2) by simp [ps, nB, c5, c13])) rfl

set_option maxRecDepth 100000 in
set_option maxHeartbeats 4000000 in
theorem r_gst {l : Launch} {w : Wd} (hW : Wi w) {σ : Mem} (a b : Int32) (μ : Nat → Int32) (hv : vw 0 σ = μ) (hI : MI μ) : MC l w qX12_wrongGoing 3 [.ref (w.1 0), .int a, .int b] σ (some (.int (nI (gst μ a b)))) (fun σ' => σ' = σ) := by
  refine MC.of hW (by decide +kernel) (Nat.le_of_ble_eq_true rfl) (fun X h hQ hnm => ?_)
  have h : Fx X w cX12_wrongGoing 3 RX12 3 := h
  have hQ : Qx X w (some .int) (some (.int (nI (gst μ a b)))) (fun σ' => σ' = σ) := hQ
  show G X w 3 0 [(0, .ref (w.1 0)), (1, .int a), (2, .int b)] [] σ
  refine g_aload_n h dX12_wrongGoing_0 0 rfl ?_
  refine g_iload_n h dX12_wrongGoing_1 1 rfl ?_
  refine g_iload_n h dX12_wrongGoing_2 2 rfl ?_
  refine g_cvpi (rest := []) h (r_ps hW a b μ (by first | exact hv | assumption | fail)) lX12_wrongTwo mX12_290 (Nat.lt_of_lt_of_le (by decide) (Nat.le_refl _)) (by decide) sc_0 rfl rfl rfl rfl dX12_wrongGoing_3 ?_
  have hps : ps μ a b < 100 := by unfold ps; split <;> (first | decide | (split <;> decide))
  refine g_ifN_le h dX12_wrongGoing_6 (by omega) (fun c6 => ?_) (fun c6 => ?_)
  ·
    have h0 := ps_0 (show ps μ a b = 0 by omega)
    obtain ⟨ea, ha⟩ := nB_N hI h0.1
    have h8 := mi_8 hI
    rw [ea]
    show G X w 3 18 [(0, .ref (w.1 0)), (1, .int (nI (toN a))), (2, .int b)] [] σ
    refine g_aload_n h dX12_wrongGoing_18 0 rfl ?_
    refine g_iload_n h dX12_wrongGoing_19 1 rfl ?_
    refine g_cvpi (rest := []) h (r_isOn hW (toN a) μ (by assumption) (by omega)) lX12_isOn mX12_114 (Nat.lt_of_lt_of_le (by decide) (Nat.le_refl _)) (by decide) sc_0 rfl rfl rfl rfl dX12_wrongGoing_20 ?_
    refine g_ifB_eq h dX12_wrongGoing_23 (fun c23 => ?_) (fun c23 => ?_)
    ·
      refine g_iconst h dX12_wrongGoing_30 (by decide) ?_
      exact g_iret h hQ dX12_wrongGoing_31 (congrArg (fun z => some (Value.int z)) (show (nI (gst μ a b)) = (nI 4) by first | (unfold gst; rw [fo_l (by omega)]) | (unfold gst ofS offB; rw [fo_r (by omega), h0.1]; simp [c6, c23]) | fail)) rfl
    ·
      refine g_iconst h dX12_wrongGoing_26 (by decide) ?_
      refine g_goto h dX12_wrongGoing_27 ?_
      exact g_iret h hQ dX12_wrongGoing_31 (congrArg (fun z => some (Value.int z)) (show (nI (gst μ a b)) = (nI 0) by first | (unfold gst; rw [fo_l (by omega)]) | (unfold gst ofS offB; rw [fo_r (by omega), h0.1]; simp [c6, c23]) | fail)) rfl
  ·
    refine g_aload_n h dX12_wrongGoing_9 0 rfl ?_
    refine g_iload_n h dX12_wrongGoing_10 1 rfl ?_
    refine g_iload_n h dX12_wrongGoing_11 2 rfl ?_
    refine g_cvpi (rest := []) h (r_ps hW a b μ (by first | exact hv | assumption | fail)) lX12_wrongTwo mX12_290 (Nat.lt_of_lt_of_le (by decide) (Nat.le_refl _)) (by decide) sc_0 rfl rfl rfl rfl dX12_wrongGoing_12 ?_
    refine g_goto h dX12_wrongGoing_15 ?_
    exact g_iret h hQ dX12_wrongGoing_31 (congrArg (fun z => some (Value.int z)) (show (nI (gst μ a b)) = (nI (ps μ a b)) by first | (unfold gst; rw [fo_l (by omega)]) | (unfold gst ofS offB; rw [fo_r (by omega), h0.1]; simp [c6]) | fail)) rfl
