/-! the law's own small methods -/
/-- among, in words -/
def amoI (v : Int32) (n : Nat) : Int32 := if v - v / nI n * nI n < 0 then v - v / nI n * nI n + nI n else v - v / nI n * nI n
def amo (v : Int32) (n : Nat) : Nat := (amoI v n).toNatClampNeg
theorem amo_ok {v : Int32} {n : Nat} (h0 : 0 < n) (hn : n < 100) : amoI v n = nI (amo v n) ∧ amo v n < n := by
  have hne : nI n ≠ -1 := nI_ne_m1 (by omega)
  have hlo : -(n : Int) < v.toInt.tmod n := Int.lt_tmod_of_pos _ (by omega)
  have hhi : v.toInt.tmod n < n := Int.tmod_lt_of_pos _ (by omega)
  have hm : (v - v / nI n * nI n).toInt = v.toInt.tmod n := by
    rw [Int32.toInt_sub, Int32.toInt_mul, Int32.toInt_div_of_ne_right v (nI n) hne, nI_toInt (by omega), Int.sub_bmod_bmod, Int.mul_comm, ← Int.tmod_def, Int.bmod_eq_of_le (by omega) (by omega)]
  have key : ∃ k, k < n ∧ amoI v n = nI k := by
    unfold amoI
    by_cases c : v - v / nI n * nI n < 0
    · rw [if_pos c]
      have c1 : (v - v / nI n * nI n).toInt < 0 := Int32.lt_iff_toInt_lt.mp c
      refine ⟨(v.toInt.tmod n + n).toNat, by omega, Int32.toInt_inj.mp ?_⟩
      rw [nI_toInt (by omega), Int32.toInt_add, nI_toInt (by omega), hm]
      rw [Int.bmod_eq_of_le (by omega) (by omega)]
      omega
    · rw [if_neg c]
      have c1 : ¬ (v - v / nI n * nI n).toInt < 0 := fun q => c (Int32.lt_iff_toInt_lt.mpr q)
      refine ⟨(v.toInt.tmod n).toNat, by omega, Int32.toInt_inj.mp ?_⟩
      rw [nI_toInt (by omega), hm]
      omega
  obtain ⟨k, hk, e⟩ := key
  have e2 : amo v n = k := by
    unfold amo
    rw [e, nI_clamp (by omega)]
  rw [e2]
  exact ⟨e, hk⟩
theorem cnt_s (s : Int32) (k : Nat) : nI (cnt s k) + b2i (tb s k) = nI (cnt s (k + 1)) := by
  unfold b2i
  rw [nI_add]
  rfl
/-- whom some of a set know -/
def kof (f : Nat → Int32) (s : Int32) (m : Nat) : Int32 := orS (fun j => if tb s j = true then f j else nI 0) m
theorem kof_t {f : Nat → Int32} {s : Int32} {m : Nat} (h : tb s m = true) : kof f s m ||| f m = kof f s (m + 1) := by
  unfold kof
  simp only [orS]
  rw [if_pos h]
theorem kof_f {f : Nat → Int32} {s : Int32} {m : Nat} (h : tb s m = false) : kof f s m ||| nI 0 = kof f s (m + 1) := by
  unfold kof
  simp only [orS]
  rw [if_neg (by rw [h]; decide)]

set_option maxRecDepth 100000 in
set_option maxHeartbeats 4000000 in
theorem c_among {l : Launch} {w : Wd} (hW : Wi w) {σ : Mem} (v : Int32) (n : Nat) (h0 : 0 < n) (hn : n < 100) : MC l w qL_among 0 [.int v, .int (nI n)] σ (some (.int (nI (amo v n)))) (fun σ' => σ' = σ) := by
  refine MC.ofX hW (by decide +kernel) (Nat.le_of_ble_eq_true rfl) (fun X h hQ => ?_)
  have h : Fy X (wA w) w cL_among 3 RL 0 := h
  have hQ : Qx X w (some .int) (some (.int (nI (amo v n)))) (fun σ' => σ' = σ) := hQ
  show JX X (wA w) w ([]) 3 0 [(0, .int v), (1, .int (nI n))] [] σ 0 0
  refine yx_iload_n h dL_among_0 0 rfl ?_
  refine yx_iload_n h dL_among_1 1 rfl ?_
  refine yx_irem h dL_among_2 (by exact nI_ne0 h0 (by omega)) ?_
  refine yx_istore_n (L' := [(0, .int v), (1, .int (nI n)), (2, .int (v - v / (nI n) * (nI n)))]) h dL_among_3 rfl (by decide) rfl ?_
  refine yx_iload_n h dL_among_4 2 rfl ?_
  refine yx_if_ge h dL_among_5 (fun c => ?_) (fun c => ?_)
  · refine yx_iload_n h dL_among_14 2 rfl ?_
    exact yx_iret h hQ dL_among_15 (by rw [← (amo_ok h0 hn).1]; unfold amoI; first | rw [if_pos (Int32.not_le.mp c)] | rw [if_neg (fun q => Int32.not_le.mpr q c)]) rfl
  · refine yx_iload_n h dL_among_8 2 rfl ?_
    refine yx_iload_n h dL_among_9 1 rfl ?_
    refine yx_iadd h dL_among_10 ?_
    refine yx_goto h dL_among_11 ?_
    exact yx_iret h hQ dL_among_15 (by rw [← (amo_ok h0 hn).1]; unfold amoI; first | rw [if_pos (Int32.not_le.mp c)] | rw [if_neg (fun q => Int32.not_le.mpr q c)]) rfl

set_option maxRecDepth 100000 in
set_option maxHeartbeats 4000000 in
theorem c_bits {l : Launch} {w : Wd} (hW : Wi w) {σ : Mem} (s : Int32) : MC l w qL_bits 0 [.int s] σ (some (.int (nI (pc s)))) (fun σ' => σ' = σ) := by
  refine MC.ofX hW (by decide +kernel) (Nat.le_of_ble_eq_true rfl) (fun X h hQ => ?_)
  have h : Fy X (wA w) w cL_bits 3 RL 0 := h
  have hQ : Qx X w (some .int) (some (.int (nI (pc s)))) (fun σ' => σ' = σ) := hQ
  have LP0 : ∀ (f k : Nat), k ≤ 8 → 8 - k < f → JX X (wA w) w ([]) 3 4 [(0, .int s), (1, .int (nI (cnt s k))), (2, .int (nI k))] [] σ 0 0 := by
    intro f
    induction f with
    | zero => intro k _ h9; exact absurd h9 (Nat.not_lt_zero _)
    | succ f ih =>
      intro k hk hf
      refine yx_iload_n h dL_bits_4 2 rfl ?_
      refine yx_bipush h dL_bits_5 (by decide) ?_
      refine yx_icmpN_ge h dL_bits_7 (by omega) (by omega) (fun c => ?_) (fun c => ?_)
      · refine yx_iload_n h dL_bits_24 1 rfl ?_
        have e8 : k = 8 := by omega
        subst e8
        exact yx_iret h hQ dL_bits_25 rfl rfl
      · refine yx_iload_n h dL_bits_10 1 rfl ?_
        refine yx_iload_n h dL_bits_11 0 rfl ?_
        refine yx_iload_n h dL_bits_12 2 rfl ?_
        refine yx_ishr h dL_bits_13 ?_
        refine yx_iconst h dL_bits_14 (by decide) ?_
        refine yx_iand h dL_bits_15 ?_
        refine yx_top (y := (b2i (tb s k))) (has_eq (by omega)) ?_
        refine yx_iadd h dL_bits_16 ?_
        refine yx_top (y := (nI (cnt s (k + 1)))) (cnt_s s k) ?_
        refine yx_istore_n (L' := [(0, .int s), (1, .int (nI (cnt s (k + 1)))), (2, .int (nI k))]) h dL_bits_17 rfl (by decide) rfl ?_
        refine yx_iincN (L' := [(0, .int s), (1, .int (nI (cnt s (k + 1)))), (2, .int (nI (k + 1)))]) h dL_bits_18 2 rfl rfl (by decide) (by decide) rfl ?_
        refine yx_goto h dL_bits_21 ?_
        exact ih (k + 1) (by omega) (by omega)
  have LP : ∀ k, k ≤ 8 → JX X (wA w) w ([]) 3 4 [(0, .int s), (1, .int (nI (cnt s k))), (2, .int (nI k))] [] σ 0 0 := fun k hk => LP0 9 k hk (by omega)
  show JX X (wA w) w ([]) 3 0 [(0, .int s)] [] σ 0 0
  refine yx_iconst h dL_bits_0 (by decide) ?_
  refine yx_istore_n (L' := [(0, .int s), (1, .int (nI 0))]) h dL_bits_1 rfl (by decide) rfl ?_
  refine yx_iconst h dL_bits_2 (by decide) ?_
  refine yx_istore_n (L' := [(0, .int s), (1, .int (nI 0)), (2, .int (nI 0))]) h dL_bits_3 rfl (by decide) rfl ?_
  exact LP 0 (by omega)

set_option maxRecDepth 100000 in
set_option maxHeartbeats 4000000 in
theorem c_hasL {l : Launch} {w : Wd} (hW : Wi w) {σ : Mem} (s : Int32) (k : Nat) (hk : k < 32) : MC l w qL_has 0 [.int s, .int (nI k)] σ (some (.int (b2i (tb s k)))) (fun σ' => σ' = σ) := by
  refine MC.ofX hW (by decide +kernel) (Nat.le_of_ble_eq_true rfl) (fun X h hQ => ?_)
  have h : Fy X (wA w) w cL_has 2 RL 0 := h
  have hQ : Qx X w (some .boolean) (some (.int (b2i (tb s k)))) (fun σ' => σ' = σ) := hQ
  show JX X (wA w) w ([]) 2 0 [(0, .int s), (1, .int (nI k))] [] σ 0 0
  refine yx_iload_n h dL_has_0 0 rfl ?_
  refine yx_iload_n h dL_has_1 1 rfl ?_
  refine yx_ishr h dL_has_2 ?_
  refine yx_iconst h dL_has_3 (by decide) ?_
  refine yx_iand h dL_has_4 ?_
  refine yx_top (y := (b2i (tb s k))) (has_eq hk) ?_
  refine yx_iconst h dL_has_5 (by decide) ?_
  refine yx_icmp_ne h dL_has_6 (fun c => ?_) (fun c => ?_)
  · refine yx_iconst h dL_has_13 (by decide) ?_
    refine yx_zret h hQ dL_has_14 (by decide) ?_ rfl
    cases e : tb s k
    · first | rfl | exact absurd (by rw [e] at c; exact c) (by decide)
    · first | rfl | exact absurd (by rw [e] at c; exact c) (by decide)
  · refine yx_iconst h dL_has_9 (by decide) ?_
    refine yx_goto h dL_has_10 ?_
    refine yx_zret h hQ dL_has_14 (by decide) ?_ rfl
    cases e : tb s k
    · first | rfl | exact absurd (by rw [e] at c; exact c) (by decide)
    · first | rfl | exact absurd (by rw [e] at c; exact c) (by decide)

set_option maxRecDepth 100000 in
set_option maxHeartbeats 4000000 in
theorem c_of {l : Launch} {w : Wd} (hW : Wi w) {σ : Mem} {es : va_W} (hE : DX w es) (q0 ka Z : Nat) (f : Nat → Int32) (he : es[q0]? = some (ka, .inl (w.2.2.1.1, Z, .inl f))) (hZ : Z ≤ 8) (s : Int32) : MCX l w es qL_of 1 [.ref ka, .int s] σ (some (.int (kof f s Z))) (fun σ' => σ' = σ) := by
  refine MCX.of hW (by decide +kernel) (Nat.le_of_ble_eq_true rfl) (fun X h hQ => ?_)
  have h : Fy X (wA w) w cL_of 4 RL 1 := h
  have hQ : Qx X w (some .int) (some (.int (kof f s Z))) (fun σ' => σ' = σ) := hQ
  have LP0 : ∀ (g k : Nat), k ≤ Z → Z - k < g → JX X (wA w) w es 4 4 [(0, .ref ka), (1, .int s), (2, .int (kof f s k)), (3, .int (nI k))] [] σ 0 0 := by
    intro g
    induction g with
    | zero => intro k _ h9; exact absurd h9 (Nat.not_lt_zero _)
    | succ g ih =>
      intro k hk hf
      refine yx_iload_n h dL_of_4 3 rfl ?_
      refine yx_aload_n h dL_of_5 0 rfl ?_
      refine yx_alen (q0 := q0) h dL_of_6 he ?_
      refine yx_icmpN_ge h dL_of_7 (by omega) (by omega) (fun c => ?_) (fun c => ?_)
      · refine yx_iload_n h dL_of_34 2 rfl ?_
        have e8 : k = Z := by omega
        subst e8
        exact yx_iret h hQ dL_of_35 rfl rfl
      · refine yx_iload_n h dL_of_10 2 rfl ?_
        refine yx_iload_n h dL_of_11 1 rfl ?_
        refine yx_iload_n h dL_of_12 3 rfl ?_
        refine yx_csp (rest := [.int (kof f s k)]) h hE ⟨Nat.zero_le _, Nat.zero_le _⟩ (c_hasL hW s k (by omega)) lL_has mL_38 (by decide) (by decide) rfl rfl rfl dL_of_13 ?_
        refine yx_ifB_eq h dL_of_16 (fun c1 => ?_) (fun c1 => ?_)
        · refine yx_iconst h dL_of_25 (by decide) ?_
          refine yx_ior h dL_of_26 ?_
          refine yx_top (y := (kof f s (k + 1))) (kof_f c1) ?_
          refine yx_istore_n (L' := [(0, .ref ka), (1, .int s), (2, .int (kof f s (k + 1))), (3, .int (nI k))]) h dL_of_27 rfl (by decide) rfl ?_
          refine yx_iincN (L' := [(0, .ref ka), (1, .int s), (2, .int (kof f s (k + 1))), (3, .int (nI (k + 1)))]) h dL_of_28 3 rfl rfl (by decide) (by decide) rfl ?_
          refine yx_goto h dL_of_31 ?_
          exact ih (k + 1) (by omega) (by omega)
        · refine yx_aload_n h dL_of_19 0 rfl ?_
          refine yx_iload_n h dL_of_20 3 rfl ?_
          refine yx_iald (q0 := q0) h dL_of_21 he (by omega) (by omega) ?_
          refine yx_goto h dL_of_22 ?_
          refine yx_ior h dL_of_26 ?_
          refine yx_top (y := (kof f s (k + 1))) (kof_t c1) ?_
          refine yx_istore_n (L' := [(0, .ref ka), (1, .int s), (2, .int (kof f s (k + 1))), (3, .int (nI k))]) h dL_of_27 rfl (by decide) rfl ?_
          refine yx_iincN (L' := [(0, .ref ka), (1, .int s), (2, .int (kof f s (k + 1))), (3, .int (nI (k + 1)))]) h dL_of_28 3 rfl rfl (by decide) (by decide) rfl ?_
          refine yx_goto h dL_of_31 ?_
          exact ih (k + 1) (by omega) (by omega)
  have LP : ∀ k, k ≤ Z → JX X (wA w) w es 4 4 [(0, .ref ka), (1, .int s), (2, .int (kof f s k)), (3, .int (nI k))] [] σ 0 0 := fun k hk => LP0 (Z + 1) k hk (by omega)
  show JX X (wA w) w es 4 0 [(0, .ref ka), (1, .int s)] [] σ 0 0
  refine yx_iconst h dL_of_0 (by decide) ?_
  refine yx_istore_n (L' := [(0, .ref ka), (1, .int s), (2, .int (nI 0))]) h dL_of_1 rfl (by decide) rfl ?_
  refine yx_iconst h dL_of_2 (by decide) ?_
  refine yx_istore_n (L' := [(0, .ref ka), (1, .int s), (2, .int (nI 0)), (3, .int (nI 0))]) h dL_of_3 rfl (by decide) rfl ?_
  exact LP 0 (by omega)
