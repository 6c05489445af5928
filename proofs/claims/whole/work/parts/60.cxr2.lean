/-! the class's lines -/
def nps (x : Nat → Nat) (L e : Nat) : Nat → Nat
  | 0 => e
  | j + 1 => txE x L (nps x L e j)
def NU (σ : Mem) (x : Nat → Nat) (L e i : Nat) : Prop := ∀ j, j < i → σ (15010 + j) = nI (txV x L (nps x L e j))
theorem NU.fr {σ σ' : Mem} {x : Nat → Nat} {L e i : Nat} (h : NU σ x L e i) (f : ∀ a, 15010 ≤ a → a < 15010 + i → σ' a = σ a) : NU σ' x L e i := fun j hj => by rw [f _ (by omega) (by omega)]; exact h j hj
theorem NU.more {σ : Mem} {x : Nat → Nat} {L e i : Nat} (h : NU σ x L e i) (h1 : σ (15010 + i) = nI (txV x L (nps x L e i))) : NU σ x L e (i + 1) := fun j hj => by
  by_cases q : j = i
  · rw [q]; exact h1
  · exact h j (by omega)
theorem nd_b {μ : Nat → Int32} {v : Nat} (hI : MI μ) (hv : v < 1000) : (decide (0 ≤ nI v) && decide (nI v < μ 0)) = decide (v < nN μ) := by
  have h8 := mi_8 hI
  rw [mi_0 hI]
  have h0 : (0 : Int32) ≤ nI v := (nI_leq (a := 0) (b := v) (by decide) (by omega)).mpr (Nat.zero_le _)
  rw [decide_eq_true h0, Bool.true_and]
  simp only [nI_ltq (a := v) (b := nN μ) (by omega) (by omega)]
theorem nd_b' {μ : Nat → Int32} {v : Nat} (hI : MI μ) (hv : v < 1000) : nB μ (nI v) = decide (v < nN μ) := nd_b hI hv
section AFs
variable {μ : Nat → Int32} {k i a v : Nat}
theorem AF_0 (h : k = 0) : AF μ k i a v = if 1 ≤ v ∧ v ≤ 8 then (if 8 < nN μ + v then 6 else 0) else 4 := by subst h; rfl
theorem AF_1 (h : k = 1) : AF μ k i a v = if i = 0 then nfa μ v else rfa v 0 7 := by subst h; rfl
theorem AF_4 (h : k = 4) : AF μ k i a v = if v < nN μ then (if tb (μ 1) v = true then 0 else 5) else 3 := by subst h; rfl
theorem AF_5 (h : k = 5) : AF μ k i a v = rfa v 1 9 := by subst h; rfl
theorem AF_6 (h : k = 6) : AF μ k i a v = rfa v 1 99 := by subst h; rfl
theorem AF_x (h : k = 2 ∨ k = 3 ∨ k = 7) : AF μ k i a v = if i = 0 then nfa μ v else if i = 1 then (if v < nN μ then (if v = a then 4 else 0) else 3) else rfa v 1 99 := by rcases h with rfl | rfl | rfl <;> rfl
theorem rfa_18 (h : 1 ≤ v ∧ v ≤ 8) : rfa v 1 8 = 0 := if_pos h
theorem nfa_y (h : v < nN μ) : nfa μ v = 0 := if_pos h
theorem nfa_n (h : ¬ v < nN μ) : nfa μ v = 3 := if_neg h
end AFs

set_option maxRecDepth 100000 in
set_option maxHeartbeats 4000000 in
theorem c_rangeFault {l : Launch} {w : Wd} (hW : Wi w) {σ : Mem} (v a b : Nat) (hv : v < 1000) (ha : a < 1000) (hb : b < 1000) : MC l w qX7_rangeFault 0 [.int (nI v), .int (nI a), .int (nI b)] σ (some (.int (nI (rfa v a b)))) (fun σ' => σ' = σ) := by
  refine MC.of hW (by decide +kernel) (Nat.le_of_ble_eq_true rfl) (fun X h hQ hnm => ?_)
  have h : Fx X w cX7_rangeFault 3 RX7 0 := h
  have hQ : Qx X w (some .int) (some (.int (nI (rfa v a b)))) (fun σ' => σ' = σ) := hQ
  show G X w 3 0 [(0, .int (nI v)), (1, .int (nI a)), (2, .int (nI b))] [] σ
  refine g_iload_n h dX7_rangeFault_0 0 rfl ?_
  refine g_iload_n h dX7_rangeFault_1 1 rfl ?_
  refine g_icmpN_lt h dX7_rangeFault_2 (by omega) (by omega) (fun c2 => ?_) (fun c2 => ?_)
  ·
    refine g_iconst h dX7_rangeFault_10 (by decide) ?_
    refine g_goto h dX7_rangeFault_11 ?_
    exact g_iret h hQ dX7_rangeFault_15 (congrArg (fun z => some (Value.int z)) (show (nI (rfa v a b)) = (nI 4) by first | exact congrArg nI (if_neg (by omega)) | exact congrArg nI (if_pos (by omega)) | fail)) rfl
  ·
    refine g_iload_n h dX7_rangeFault_5 0 rfl ?_
    refine g_iload_n h dX7_rangeFault_6 2 rfl ?_
    refine g_icmpN_le h dX7_rangeFault_7 (by omega) (by omega) (fun c7 => ?_) (fun c7 => ?_)
    ·
      refine g_iconst h dX7_rangeFault_14 (by decide) ?_
      exact g_iret h hQ dX7_rangeFault_15 (congrArg (fun z => some (Value.int z)) (show (nI (rfa v a b)) = (nI 0) by first | exact congrArg nI (if_neg (by omega)) | exact congrArg nI (if_pos (by omega)) | fail)) rfl
    ·
      refine g_iconst h dX7_rangeFault_10 (by decide) ?_
      refine g_goto h dX7_rangeFault_11 ?_
      exact g_iret h hQ dX7_rangeFault_15 (congrArg (fun z => some (Value.int z)) (show (nI (rfa v a b)) = (nI 4) by first | exact congrArg nI (if_neg (by omega)) | exact congrArg nI (if_pos (by omega)) | fail)) rfl

set_option maxRecDepth 100000 in
set_option maxHeartbeats 4000000 in
theorem c_nodeFault {l : Launch} {w : Wd} (hW : Wi w) {σ : Mem} (v : Nat) (m : Nat) (μ : Nat → Int32) (hm : m < 6) (hv : vw (vb m) σ = μ) (hI : MI μ) (hv9 : v < 1000) : MC l w qX7_nodeFault 1 [.ref (w.1 (mc m 0)), .int (nI v)] σ (some (.int (nI (nfa μ v)))) (fun σ' => σ' = σ) := by
  refine MC.of hW (by decide +kernel) (Nat.le_of_ble_eq_true rfl) (fun X h hQ hnm => ?_)
  have h : Fx X w cX7_nodeFault 2 RX7 1 := h
  have hQ : Qx X w (some .int) (some (.int (nI (nfa μ v)))) (fun σ' => σ' = σ) := hQ
  show G X w 2 0 [(0, .ref (w.1 (mc m 0))), (1, .int (nI v))] [] σ
  refine g_aload_n h dX7_nodeFault_0 0 rfl ?_
  refine g_iload_n h dX7_nodeFault_1 1 rfl ?_
  refine g_cvpi (rest := []) h (c_isNode hW (nI v) m μ (by first | omega | decide | fail) (by first | exact hv | assumption | fail)) lX5_isNode mX7_145 (Nat.lt_of_lt_of_le (by decide) (Nat.le_refl _)) (by decide) (sM_0 (m := m) (by omega)) rfl rfl rfl rfl dX7_nodeFault_2 ?_
  refine g_top (y := (b2i (decide (v < nN μ)))) (congrArg b2i (nd_b hI hv9)) ?_
  refine g_ifB_eq h dX7_nodeFault_5 (fun c5 => ?_) (fun c5 => ?_)
  ·
    refine g_iconst h dX7_nodeFault_12 (by decide) ?_
    exact g_iret h hQ dX7_nodeFault_13 (congrArg (fun z => some (Value.int z)) (show (nI (nfa μ v)) = (nI 3) by first | exact congrArg nI (nfa_y (of_decide_eq_true c5)) | exact congrArg nI (nfa_n (of_decide_eq_false c5)) | fail)) rfl
  ·
    refine g_iconst h dX7_nodeFault_8 (by decide) ?_
    refine g_goto h dX7_nodeFault_9 ?_
    exact g_iret h hQ dX7_nodeFault_13 (congrArg (fun z => some (Value.int z)) (show (nI (nfa μ v)) = (nI 0) by first | exact congrArg nI (nfa_y (of_decide_eq_true c5)) | exact congrArg nI (nfa_n (of_decide_eq_false c5)) | fail)) rfl

set_option maxRecDepth 100000 in
set_option maxHeartbeats 4000000 in
theorem c_placeFault {l : Launch} {w : Wd} (hW : Wi w) {σ : Mem} (i v a : Nat) (m : Nat) (μ : Nat → Int32) (hm : m < 6) (hv : vw (vb m) σ = μ) (hI : MI μ) (hv9 : v < 1000) (hi2 : i < 2) (ha9 : a < 1000) (h1 : σ (15010 + i) = nI v) (h0 : i = 1 → σ (15010 + 0) = nI a) : MC l w qX7_placeFault 2 [.ref (w.1 15), .ref (w.1 (mc m 0)), .int (nI i)] σ (some (.int (nI (if i = 0 then nfa μ v else (if v < nN μ then (if v = a then 4 else 0) else 3))))) (fun σ' => σ' = σ) := by
  refine MC.of hW (by decide +kernel) (Nat.le_of_ble_eq_true rfl) (fun X h hQ hnm => ?_)
  have h : Fx X w cX7_placeFault 4 RX7 2 := h
  have hQ : Qx X w (some .int) (some (.int (nI (if i = 0 then nfa μ v else (if v < nN μ then (if v = a then 4 else 0) else 3))))) (fun σ' => σ' = σ) := hQ
  have hN8 := mi_8 hI
  have hnf : nfa μ v < 10 := by unfold nfa; split <;> omega
  show G X w 4 0 [(0, .ref (w.1 15)), (1, .ref (w.1 (mc m 0))), (2, .int (nI i))] [] σ
  refine g_aload_n h dX7_placeFault_0 1 rfl ?_
  refine g_aload_n h dX7_placeFault_1 0 rfl ?_
  refine g_getr h dX7_placeFault_2 gX7_15 sc_15 rfl ?_
  refine g_iload_n h dX7_placeFault_5 2 rfl ?_
  refine g_iald h dX7_placeFault_6 sc_17 (by omega) ?_
  refine g_top (y := (nI v)) h1 ?_
  refine g_cspi (rest := []) h (c_nodeFault hW v m μ (by first | omega | decide | fail) (by first | exact hv | assumption | fail) (by assumption) (by first | omega | assumption | fail)) lX7_nodeFault mX7_151 (Nat.lt_of_lt_of_le (by decide) (Nat.le_refl _)) (by decide) rfl rfl rfl dX7_placeFault_7 ?_
  refine g_istore_n (L' := [(0, .ref (w.1 15)), (1, .ref (w.1 (mc m 0))), (2, .int (nI i)), (3, .int (nI (nfa μ v)))]) h dX7_placeFault_10 rfl (by decide) rfl ?_
  refine g_iload_n h dX7_placeFault_11 3 rfl ?_
  refine g_ifN_ne h dX7_placeFault_12 (by omega) (fun c12 => ?_) (fun c12 => ?_)
  ·
    have hn9 : ¬ v < nN μ := fun z => c12 (nfa_y z)
    refine g_iload_n h dX7_placeFault_39 3 rfl ?_
    exact g_iret h hQ dX7_placeFault_40 (congrArg (fun z => some (Value.int z)) (show (nI (if i = 0 then nfa μ v else (if v < nN μ then (if v = a then 4 else 0) else 3))) = (nI (nfa μ v)) by refine congrArg nI ?_; first | (rw [nfa_n hn9, if_neg hn9]; split <;> rfl) | (have q9 : i = 0 := (by omega); rw [if_pos q9]; done) | (have q9 : ¬ i = 0 := (by omega); rw [if_neg q9, if_pos hn9, if_pos c32]; done) | (have q9 : ¬ i = 0 := (by omega); rw [if_neg q9, if_pos hn9, if_neg c32, nfa_y hn9]; done) | fail)) rfl
  ·
    have hn9 : v < nN μ := nfa_0 c12
    refine g_iload_n h dX7_placeFault_15 2 rfl ?_
    refine g_iconst h dX7_placeFault_16 (by decide) ?_
    refine g_icmpN_ne h dX7_placeFault_17 (by omega) (by omega) (fun c17 => ?_) (fun c17 => ?_)
    ·
      refine g_iload_n h dX7_placeFault_39 3 rfl ?_
      exact g_iret h hQ dX7_placeFault_40 (congrArg (fun z => some (Value.int z)) (show (nI (if i = 0 then nfa μ v else (if v < nN μ then (if v = a then 4 else 0) else 3))) = (nI (nfa μ v)) by refine congrArg nI ?_; first | (rw [nfa_n hn9, if_neg hn9]; split <;> rfl) | (have q9 : i = 0 := (by omega); rw [if_pos q9]; done) | (have q9 : ¬ i = 0 := (by omega); rw [if_neg q9, if_pos hn9, if_pos c32]; done) | (have q9 : ¬ i = 0 := (by omega); rw [if_neg q9, if_pos hn9, if_neg c32, nfa_y hn9]; done) | fail)) rfl
    ·
      refine g_aload_n h dX7_placeFault_20 0 rfl ?_
      refine g_getr h dX7_placeFault_21 gX7_15 sc_15 rfl ?_
      refine g_iconst h dX7_placeFault_24 (by decide) ?_
      refine g_iald h dX7_placeFault_25 sc_17 (by omega) ?_
      refine g_top (y := (nI v)) (by rw [show 15010 + 1 = 15010 + i from by omega]; exact h1) ?_
      refine g_aload_n h dX7_placeFault_26 0 rfl ?_
      refine g_getr h dX7_placeFault_27 gX7_15 sc_15 rfl ?_
      refine g_iconst h dX7_placeFault_30 (by decide) ?_
      refine g_iald h dX7_placeFault_31 sc_17 (by omega) ?_
      refine g_top (y := (nI a)) (h0 (by omega)) ?_
      refine g_icmpN_ne h dX7_placeFault_32 (by omega) (by omega) (fun c32 => ?_) (fun c32 => ?_)
      ·
        refine g_iload_n h dX7_placeFault_39 3 rfl ?_
        exact g_iret h hQ dX7_placeFault_40 (congrArg (fun z => some (Value.int z)) (show (nI (if i = 0 then nfa μ v else (if v < nN μ then (if v = a then 4 else 0) else 3))) = (nI (nfa μ v)) by refine congrArg nI ?_; first | (rw [nfa_n hn9, if_neg hn9]; split <;> rfl) | (have q9 : i = 0 := (by omega); rw [if_pos q9]; done) | (have q9 : ¬ i = 0 := (by omega); rw [if_neg q9, if_pos hn9, if_pos c32]; done) | (have q9 : ¬ i = 0 := (by omega); rw [if_neg q9, if_pos hn9, if_neg c32, nfa_y hn9]; done) | fail)) rfl
      ·
        refine g_iconst h dX7_placeFault_35 (by decide) ?_
        refine g_goto h dX7_placeFault_36 ?_
        exact g_iret h hQ dX7_placeFault_40 (congrArg (fun z => some (Value.int z)) (show (nI (if i = 0 then nfa μ v else (if v < nN μ then (if v = a then 4 else 0) else 3))) = (nI 4) by refine congrArg nI ?_; first | (rw [nfa_n hn9, if_neg hn9]; split <;> rfl) | (have q9 : i = 0 := (by omega); rw [if_pos q9]; done) | (have q9 : ¬ i = 0 := (by omega); rw [if_neg q9, if_pos hn9, if_pos c32]; done) | (have q9 : ¬ i = 0 := (by omega); rw [if_neg q9, if_pos hn9, if_neg c32, nfa_y hn9]; done) | fail)) rfl

set_option maxRecDepth 100000 in
set_option maxHeartbeats 4000000 in
theorem c_numbersOf {l : Launch} {w : Wd} (hW : Wi w) {σ : Mem} (k : Nat) (hk8 : k < 8) : MC l w qX7_numbersOf 0 [.int (nI (k + 1))] σ (some (.int (nI (na9 k)))) (fun σ' => σ' = σ) := by
  refine MC.of hW (by decide +kernel) (Nat.le_of_ble_eq_true rfl) (fun X h hQ hnm => ?_)
  have h : Fx X w cX7_numbersOf 1 RX7 0 := h
  have hQ : Qx X w (some .int) (some (.int (nI (na9 k)))) (fun σ' => σ' = σ) := hQ
  show G X w 1 0 [(0, .int (nI (k + 1)))] [] σ
  refine g_iload_n h dX7_numbersOf_0 0 rfl ?_
  rcases (show k + 1 = 1 ∨ k + 1 = 2 ∨ k + 1 = 3 ∨ k + 1 = 4 ∨ k + 1 = 5 ∨ k + 1 = 6 ∨ k + 1 = 7 ∨ k + 1 = 8 by omega) with hc1 | hc1 | hc1 | hc1 | hc1 | hc1 | hc1 | hc1
  ·
    refine g_tswOut (tgt := 48) h dX7_numbersOf_1 (by rw [hc1]; decide) (by decide) ?_
    refine g_iconst h dX7_numbersOf_48 (by decide) ?_
    exact g_iret h hQ dX7_numbersOf_49 (congrArg (fun z => some (Value.int z)) (show (nI (na9 k)) = (nI 1) by first | (rw [show k = 0 from by omega]; rfl) | (rw [show k = 1 from by omega]; rfl) | (rw [show k = 2 from by omega]; rfl) | (rw [show k = 3 from by omega]; rfl) | (rw [show k = 4 from by omega]; rfl) | (rw [show k = 5 from by omega]; rfl) | (rw [show k = 6 from by omega]; rfl) | (rw [show k = 7 from by omega]; rfl) | fail)) rfl
  ·
    refine g_tsw (off := 43) (tgt := 44) h dX7_numbersOf_1 (nI 2) (by rw [hc1]) (by decide) (by decide) (by decide +kernel) (by decide) ?_
    refine g_iconst h dX7_numbersOf_44 (by decide) ?_
    exact g_iret h hQ dX7_numbersOf_45 (congrArg (fun z => some (Value.int z)) (show (nI (na9 k)) = (nI 2) by first | (rw [show k = 0 from by omega]; rfl) | (rw [show k = 1 from by omega]; rfl) | (rw [show k = 2 from by omega]; rfl) | (rw [show k = 3 from by omega]; rfl) | (rw [show k = 4 from by omega]; rfl) | (rw [show k = 5 from by omega]; rfl) | (rw [show k = 6 from by omega]; rfl) | (rw [show k = 7 from by omega]; rfl) | fail)) rfl
  ·
    refine g_tsw (off := 43) (tgt := 44) h dX7_numbersOf_1 (nI 3) (by rw [hc1]) (by decide) (by decide) (by decide +kernel) (by decide) ?_
    refine g_iconst h dX7_numbersOf_44 (by decide) ?_
    exact g_iret h hQ dX7_numbersOf_45 (congrArg (fun z => some (Value.int z)) (show (nI (na9 k)) = (nI 2) by first | (rw [show k = 0 from by omega]; rfl) | (rw [show k = 1 from by omega]; rfl) | (rw [show k = 2 from by omega]; rfl) | (rw [show k = 3 from by omega]; rfl) | (rw [show k = 4 from by omega]; rfl) | (rw [show k = 5 from by omega]; rfl) | (rw [show k = 6 from by omega]; rfl) | (rw [show k = 7 from by omega]; rfl) | fail)) rfl
  ·
    refine g_tsw (off := 43) (tgt := 44) h dX7_numbersOf_1 (nI 4) (by rw [hc1]) (by decide) (by decide) (by decide +kernel) (by decide) ?_
    refine g_iconst h dX7_numbersOf_44 (by decide) ?_
    exact g_iret h hQ dX7_numbersOf_45 (congrArg (fun z => some (Value.int z)) (show (nI (na9 k)) = (nI 2) by first | (rw [show k = 0 from by omega]; rfl) | (rw [show k = 1 from by omega]; rfl) | (rw [show k = 2 from by omega]; rfl) | (rw [show k = 3 from by omega]; rfl) | (rw [show k = 4 from by omega]; rfl) | (rw [show k = 5 from by omega]; rfl) | (rw [show k = 6 from by omega]; rfl) | (rw [show k = 7 from by omega]; rfl) | fail)) rfl
  ·
    refine g_tsw (off := 47) (tgt := 48) h dX7_numbersOf_1 (nI 5) (by rw [hc1]) (by decide) (by decide) (by decide +kernel) (by decide) ?_
    refine g_iconst h dX7_numbersOf_48 (by decide) ?_
    exact g_iret h hQ dX7_numbersOf_49 (congrArg (fun z => some (Value.int z)) (show (nI (na9 k)) = (nI 1) by first | (rw [show k = 0 from by omega]; rfl) | (rw [show k = 1 from by omega]; rfl) | (rw [show k = 2 from by omega]; rfl) | (rw [show k = 3 from by omega]; rfl) | (rw [show k = 4 from by omega]; rfl) | (rw [show k = 5 from by omega]; rfl) | (rw [show k = 6 from by omega]; rfl) | (rw [show k = 7 from by omega]; rfl) | fail)) rfl
  ·
    refine g_tsw (off := 47) (tgt := 48) h dX7_numbersOf_1 (nI 6) (by rw [hc1]) (by decide) (by decide) (by decide +kernel) (by decide) ?_
    refine g_iconst h dX7_numbersOf_48 (by decide) ?_
    exact g_iret h hQ dX7_numbersOf_49 (congrArg (fun z => some (Value.int z)) (show (nI (na9 k)) = (nI 1) by first | (rw [show k = 0 from by omega]; rfl) | (rw [show k = 1 from by omega]; rfl) | (rw [show k = 2 from by omega]; rfl) | (rw [show k = 3 from by omega]; rfl) | (rw [show k = 4 from by omega]; rfl) | (rw [show k = 5 from by omega]; rfl) | (rw [show k = 6 from by omega]; rfl) | (rw [show k = 7 from by omega]; rfl) | fail)) rfl
  ·
    refine g_tsw (off := 47) (tgt := 48) h dX7_numbersOf_1 (nI 7) (by rw [hc1]) (by decide) (by decide) (by decide +kernel) (by decide) ?_
    refine g_iconst h dX7_numbersOf_48 (by decide) ?_
    exact g_iret h hQ dX7_numbersOf_49 (congrArg (fun z => some (Value.int z)) (show (nI (na9 k)) = (nI 1) by first | (rw [show k = 0 from by omega]; rfl) | (rw [show k = 1 from by omega]; rfl) | (rw [show k = 2 from by omega]; rfl) | (rw [show k = 3 from by omega]; rfl) | (rw [show k = 4 from by omega]; rfl) | (rw [show k = 5 from by omega]; rfl) | (rw [show k = 6 from by omega]; rfl) | (rw [show k = 7 from by omega]; rfl) | fail)) rfl
  ·
    refine g_tsw (off := 45) (tgt := 46) h dX7_numbersOf_1 (nI 8) (by rw [hc1]) (by decide) (by decide) (by decide +kernel) (by decide) ?_
    refine g_iconst h dX7_numbersOf_46 (by decide) ?_
    exact g_iret h hQ dX7_numbersOf_47 (congrArg (fun z => some (Value.int z)) (show (nI (na9 k)) = (nI 3) by first | (rw [show k = 0 from by omega]; rfl) | (rw [show k = 1 from by omega]; rfl) | (rw [show k = 2 from by omega]; rfl) | (rw [show k = 3 from by omega]; rfl) | (rw [show k = 4 from by omega]; rfl) | (rw [show k = 5 from by omega]; rfl) | (rw [show k = 6 from by omega]; rfl) | (rw [show k = 7 from by omega]; rfl) | fail)) rfl

set_option maxRecDepth 100000 in
set_option maxHeartbeats 4000000 in
theorem c_numberFault {l : Launch} {w : Wd} (hW : Wi w) {σ : Mem} (k i v a : Nat) (m : Nat) (μ : Nat → Int32) (hm : m < 6) (hv : vw (vb m) σ = μ) (hI : MI μ) (hv9 : v < 1000) (hk8 : k < 8) (hi3 : i < na9 k) (ha9 : a < 1000) (h1 : σ (15010 + i) = nI v) (h0 : 1 ≤ i → σ (15010 + 0) = nI a) : MC l w qX7_numberFault 3 [.ref (w.1 15), .ref (w.1 (mc m 0)), .int (nI (k + 1)), .int (nI i)] σ (some (.int (nI (AF μ k i a v)))) (fun σ' => σ' = σ) := by
  refine MC.of hW (by decide +kernel) (Nat.le_of_ble_eq_true rfl) (fun X h hQ hnm => ?_)
  have h : Fx X w cX7_numberFault 5 RX7 3 := h
  have hQ : Qx X w (some .int) (some (.int (nI (AF μ k i a v)))) (fun σ' => σ' = σ) := hQ
  have hN8 := mi_8 hI
  have hn3 : na9 k ≤ 3 := by unfold na9; (repeat' split) <;> omega
  have hA := AF_lt (μ := μ) (k := k) (i := i) (a := a) (v := v)
  show G X w 5 0 [(0, .ref (w.1 15)), (1, .ref (w.1 (mc m 0))), (2, .int (nI (k + 1))), (3, .int (nI i))] [] σ
  refine g_aload_n h dX7_numberFault_0 0 rfl ?_
  refine g_getr h dX7_numberFault_1 gX7_15 sc_15 rfl ?_
  refine g_iload_n h dX7_numberFault_4 3 rfl ?_
  refine g_iald h dX7_numberFault_5 sc_17 (by omega) ?_
  refine g_top (y := (nI v)) h1 ?_
  refine g_istore (L' := [(0, .ref (w.1 15)), (1, .ref (w.1 (mc m 0))), (2, .int (nI (k + 1))), (3, .int (nI i)), (4, .int (nI v))]) h dX7_numberFault_6 rfl (by decide) rfl ?_
  refine g_iload_n h dX7_numberFault_8 2 rfl ?_
  rcases (show k + 1 = 1 ∨ k + 1 = 2 ∨ k + 1 = 3 ∨ k + 1 = 4 ∨ k + 1 = 5 ∨ k + 1 = 6 ∨ k + 1 = 7 ∨ k + 1 = 8 by omega) with hc9 | hc9 | hc9 | hc9 | hc9 | hc9 | hc9 | hc9
  ·
    refine g_tsw (off := 43) (tgt := 52) h dX7_numberFault_9 (nI 1) (by rw [hc9]) (by decide) (by decide) (by decide +kernel) (by decide) ?_
    refine g_iload h dX7_numberFault_52 4 rfl ?_
    refine g_iconst h dX7_numberFault_54 (by decide) ?_
    refine g_icmpN_lt h dX7_numberFault_55 (by omega) (by omega) (fun c55 => ?_) (fun c55 => ?_)
    ·
      refine g_iload h dX7_numberFault_82 4 rfl ?_
      refine g_iconst h dX7_numberFault_84 (by decide) ?_
      refine g_bipush h dX7_numberFault_85 (by decide) ?_
      refine g_cspi (rest := []) h (c_rangeFault hW v 1 8 (by first | omega | assumption | fail) (by omega) (by omega)) lX7_rangeFault mX7_141 (Nat.lt_of_lt_of_le (by decide) (Nat.le_refl _)) (by decide) rfl rfl rfl dX7_numberFault_87 ?_
      exact g_iret h hQ dX7_numberFault_90 (congrArg (fun z => some (Value.int z)) (show (nI (AF μ k i a v)) = (nI (rfa v 1 8)) by refine congrArg nI ?_; first | (have q9 : k = 0 := (by omega); rw [AF_0 q9]; (try unfold rfa); (repeat' split) <;> omega) | (have q9 : k = 5 := (by omega); exact AF_5 q9) | (have q9 : k = 6 := (by omega); exact AF_6 q9) | (have q9 : k = 4 := (by omega); first | (have q8 := of_decide_eq_true c115; rw [AF_4 q9, if_pos q8, c124, if_neg (by decide)]; done) | (have q8 := of_decide_eq_true c115; rw [AF_4 q9, if_pos q8, if_pos c124]; exact (nfa_y q8).symm) | (have q8 := of_decide_eq_false c115; rw [AF_4 q9, if_neg q8]; exact (nfa_n q8).symm)) | (have q9 : k = 1 := (by omega); have q8 : i = 0 := (by omega); rw [AF_1 q9, if_pos q8]; done) | (have q9 : k = 1 := (by omega); have q8 : ¬ i = 0 := (by omega); rw [AF_1 q9, if_neg q8]; done) | (have q9 : k = 2 ∨ k = 3 ∨ k = 7 := (by omega); have q7 : i < 2 := (by omega); rw [AF_x q9]; rcases (show i = 0 ∨ i = 1 by omega) with q8 | q8 <;> rw [q8] <;> rfl) | (have q9 : k = 2 ∨ k = 3 ∨ k = 7 := (by omega); have q8 : ¬ i = 0 := (by omega); have q7 : ¬ i = 1 := (by omega); rw [AF_x q9, if_neg q8, if_neg q7]; done) | fail)) rfl
    ·
      refine g_iload h dX7_numberFault_58 4 rfl ?_
      refine g_bipush h dX7_numberFault_60 (by decide) ?_
      refine g_icmpN_gt h dX7_numberFault_62 (by omega) (by omega) (fun c62 => ?_) (fun c62 => ?_)
      ·
        refine g_iload h dX7_numberFault_82 4 rfl ?_
        refine g_iconst h dX7_numberFault_84 (by decide) ?_
        refine g_bipush h dX7_numberFault_85 (by decide) ?_
        refine g_cspi (rest := []) h (c_rangeFault hW v 1 8 (by first | omega | assumption | fail) (by omega) (by omega)) lX7_rangeFault mX7_141 (Nat.lt_of_lt_of_le (by decide) (Nat.le_refl _)) (by decide) rfl rfl rfl dX7_numberFault_87 ?_
        exact g_iret h hQ dX7_numberFault_90 (congrArg (fun z => some (Value.int z)) (show (nI (AF μ k i a v)) = (nI (rfa v 1 8)) by refine congrArg nI ?_; first | (have q9 : k = 0 := (by omega); rw [AF_0 q9]; (try unfold rfa); (repeat' split) <;> omega) | (have q9 : k = 5 := (by omega); exact AF_5 q9) | (have q9 : k = 6 := (by omega); exact AF_6 q9) | (have q9 : k = 4 := (by omega); first | (have q8 := of_decide_eq_true c115; rw [AF_4 q9, if_pos q8, c124, if_neg (by decide)]; done) | (have q8 := of_decide_eq_true c115; rw [AF_4 q9, if_pos q8, if_pos c124]; exact (nfa_y q8).symm) | (have q8 := of_decide_eq_false c115; rw [AF_4 q9, if_neg q8]; exact (nfa_n q8).symm)) | (have q9 : k = 1 := (by omega); have q8 : i = 0 := (by omega); rw [AF_1 q9, if_pos q8]; done) | (have q9 : k = 1 := (by omega); have q8 : ¬ i = 0 := (by omega); rw [AF_1 q9, if_neg q8]; done) | (have q9 : k = 2 ∨ k = 3 ∨ k = 7 := (by omega); have q7 : i < 2 := (by omega); rw [AF_x q9]; rcases (show i = 0 ∨ i = 1 by omega) with q8 | q8 <;> rw [q8] <;> rfl) | (have q9 : k = 2 ∨ k = 3 ∨ k = 7 := (by omega); have q8 : ¬ i = 0 := (by omega); have q7 : ¬ i = 1 := (by omega); rw [AF_x q9, if_neg q8, if_neg q7]; done) | fail)) rfl
      ·
        refine g_aload_n h dX7_numberFault_65 1 rfl ?_
        refine g_geti h dX7_numberFault_66 gX7_138 (sM_0 (m := m) (by omega)) rfl ?_
        refine g_top (y := μ 0) (vw_pic (b := (vb m)) (k := 0) (by first | exact hv | assumption) (by omega)) ?_
        refine g_top (y := nI (nN μ)) (mi_0 (by assumption)) ?_
        refine g_iload h dX7_numberFault_69 4 rfl ?_
        refine g_iaddN h dX7_numberFault_71  ?_
        refine g_bipush h dX7_numberFault_72 (by decide) ?_
        refine g_icmpN_le h dX7_numberFault_74 (by omega) (by omega) (fun c74 => ?_) (fun c74 => ?_)
        ·
          refine g_iload h dX7_numberFault_82 4 rfl ?_
          refine g_iconst h dX7_numberFault_84 (by decide) ?_
          refine g_bipush h dX7_numberFault_85 (by decide) ?_
          refine g_cspi (rest := []) h (c_rangeFault hW v 1 8 (by first | omega | assumption | fail) (by omega) (by omega)) lX7_rangeFault mX7_141 (Nat.lt_of_lt_of_le (by decide) (Nat.le_refl _)) (by decide) rfl rfl rfl dX7_numberFault_87 ?_
          exact g_iret h hQ dX7_numberFault_90 (congrArg (fun z => some (Value.int z)) (show (nI (AF μ k i a v)) = (nI (rfa v 1 8)) by refine congrArg nI ?_; first | (have q9 : k = 0 := (by omega); rw [AF_0 q9]; (try unfold rfa); (repeat' split) <;> omega) | (have q9 : k = 5 := (by omega); exact AF_5 q9) | (have q9 : k = 6 := (by omega); exact AF_6 q9) | (have q9 : k = 4 := (by omega); first | (have q8 := of_decide_eq_true c115; rw [AF_4 q9, if_pos q8, c124, if_neg (by decide)]; done) | (have q8 := of_decide_eq_true c115; rw [AF_4 q9, if_pos q8, if_pos c124]; exact (nfa_y q8).symm) | (have q8 := of_decide_eq_false c115; rw [AF_4 q9, if_neg q8]; exact (nfa_n q8).symm)) | (have q9 : k = 1 := (by omega); have q8 : i = 0 := (by omega); rw [AF_1 q9, if_pos q8]; done) | (have q9 : k = 1 := (by omega); have q8 : ¬ i = 0 := (by omega); rw [AF_1 q9, if_neg q8]; done) | (have q9 : k = 2 ∨ k = 3 ∨ k = 7 := (by omega); have q7 : i < 2 := (by omega); rw [AF_x q9]; rcases (show i = 0 ∨ i = 1 by omega) with q8 | q8 <;> rw [q8] <;> rfl) | (have q9 : k = 2 ∨ k = 3 ∨ k = 7 := (by omega); have q8 : ¬ i = 0 := (by omega); have q7 : ¬ i = 1 := (by omega); rw [AF_x q9, if_neg q8, if_neg q7]; done) | fail)) rfl
        ·
          refine g_bipush h dX7_numberFault_77 (by decide) ?_
          refine g_goto h dX7_numberFault_79 ?_
          exact g_iret h hQ dX7_numberFault_90 (congrArg (fun z => some (Value.int z)) (show (nI (AF μ k i a v)) = (nI 6) by refine congrArg nI ?_; first | (have q9 : k = 0 := (by omega); rw [AF_0 q9]; (try unfold rfa); (repeat' split) <;> omega) | (have q9 : k = 5 := (by omega); exact AF_5 q9) | (have q9 : k = 6 := (by omega); exact AF_6 q9) | (have q9 : k = 4 := (by omega); first | (have q8 := of_decide_eq_true c115; rw [AF_4 q9, if_pos q8, c124, if_neg (by decide)]; done) | (have q8 := of_decide_eq_true c115; rw [AF_4 q9, if_pos q8, if_pos c124]; exact (nfa_y q8).symm) | (have q8 := of_decide_eq_false c115; rw [AF_4 q9, if_neg q8]; exact (nfa_n q8).symm)) | (have q9 : k = 1 := (by omega); have q8 : i = 0 := (by omega); rw [AF_1 q9, if_pos q8]; done) | (have q9 : k = 1 := (by omega); have q8 : ¬ i = 0 := (by omega); rw [AF_1 q9, if_neg q8]; done) | (have q9 : k = 2 ∨ k = 3 ∨ k = 7 := (by omega); have q7 : i < 2 := (by omega); rw [AF_x q9]; rcases (show i = 0 ∨ i = 1 by omega) with q8 | q8 <;> rw [q8] <;> rfl) | (have q9 : k = 2 ∨ k = 3 ∨ k = 7 := (by omega); have q8 : ¬ i = 0 := (by omega); have q7 : ¬ i = 1 := (by omega); rw [AF_x q9, if_neg q8, if_neg q7]; done) | fail)) rfl
  ·
    refine g_tsw (off := 129) (tgt := 138) h dX7_numberFault_9 (nI 2) (by rw [hc9]) (by decide) (by decide) (by decide +kernel) (by decide) ?_
    refine g_iload_n h dX7_numberFault_138 3 rfl ?_
    refine g_ifN_ne h dX7_numberFault_139 (by omega) (fun c139 => ?_) (fun c139 => ?_)
    ·
      refine g_iload h dX7_numberFault_151 4 rfl ?_
      refine g_iconst h dX7_numberFault_153 (by decide) ?_
      refine g_bipush h dX7_numberFault_154 (by decide) ?_
      refine g_cspi (rest := []) h (c_rangeFault hW v 0 7 (by first | omega | assumption | fail) (by omega) (by omega)) lX7_rangeFault mX7_141 (Nat.lt_of_lt_of_le (by decide) (Nat.le_refl _)) (by decide) rfl rfl rfl dX7_numberFault_156 ?_
      exact g_iret h hQ dX7_numberFault_159 (congrArg (fun z => some (Value.int z)) (show (nI (AF μ k i a v)) = (nI (rfa v 0 7)) by refine congrArg nI ?_; first | (have q9 : k = 0 := (by omega); rw [AF_0 q9]; (try unfold rfa); (repeat' split) <;> omega) | (have q9 : k = 5 := (by omega); exact AF_5 q9) | (have q9 : k = 6 := (by omega); exact AF_6 q9) | (have q9 : k = 4 := (by omega); first | (have q8 := of_decide_eq_true c115; rw [AF_4 q9, if_pos q8, c124, if_neg (by decide)]; done) | (have q8 := of_decide_eq_true c115; rw [AF_4 q9, if_pos q8, if_pos c124]; exact (nfa_y q8).symm) | (have q8 := of_decide_eq_false c115; rw [AF_4 q9, if_neg q8]; exact (nfa_n q8).symm)) | (have q9 : k = 1 := (by omega); have q8 : i = 0 := (by omega); rw [AF_1 q9, if_pos q8]; done) | (have q9 : k = 1 := (by omega); have q8 : ¬ i = 0 := (by omega); rw [AF_1 q9, if_neg q8]; done) | (have q9 : k = 2 ∨ k = 3 ∨ k = 7 := (by omega); have q7 : i < 2 := (by omega); rw [AF_x q9]; rcases (show i = 0 ∨ i = 1 by omega) with q8 | q8 <;> rw [q8] <;> rfl) | (have q9 : k = 2 ∨ k = 3 ∨ k = 7 := (by omega); have q8 : ¬ i = 0 := (by omega); have q7 : ¬ i = 1 := (by omega); rw [AF_x q9, if_neg q8, if_neg q7]; done) | fail)) rfl
    ·
      refine g_aload_n h dX7_numberFault_142 1 rfl ?_
      refine g_iload h dX7_numberFault_143 4 rfl ?_
      refine g_cspi (rest := []) h (c_nodeFault hW v m μ (by first | omega | decide | fail) (by first | exact hv | assumption | fail) (by assumption) (by first | omega | assumption | fail)) lX7_nodeFault mX7_151 (Nat.lt_of_lt_of_le (by decide) (Nat.le_refl _)) (by decide) rfl rfl rfl dX7_numberFault_145 ?_
      refine g_goto h dX7_numberFault_148 ?_
      exact g_iret h hQ dX7_numberFault_159 (congrArg (fun z => some (Value.int z)) (show (nI (AF μ k i a v)) = (nI (nfa μ v)) by refine congrArg nI ?_; first | (have q9 : k = 0 := (by omega); rw [AF_0 q9]; (try unfold rfa); (repeat' split) <;> omega) | (have q9 : k = 5 := (by omega); exact AF_5 q9) | (have q9 : k = 6 := (by omega); exact AF_6 q9) | (have q9 : k = 4 := (by omega); first | (have q8 := of_decide_eq_true c115; rw [AF_4 q9, if_pos q8, c124, if_neg (by decide)]; done) | (have q8 := of_decide_eq_true c115; rw [AF_4 q9, if_pos q8, if_pos c124]; exact (nfa_y q8).symm) | (have q8 := of_decide_eq_false c115; rw [AF_4 q9, if_neg q8]; exact (nfa_n q8).symm)) | (have q9 : k = 1 := (by omega); have q8 : i = 0 := (by omega); rw [AF_1 q9, if_pos q8]; done) | (have q9 : k = 1 := (by omega); have q8 : ¬ i = 0 := (by omega); rw [AF_1 q9, if_neg q8]; done) | (have q9 : k = 2 ∨ k = 3 ∨ k = 7 := (by omega); have q7 : i < 2 := (by omega); rw [AF_x q9]; rcases (show i = 0 ∨ i = 1 by omega) with q8 | q8 <;> rw [q8] <;> rfl) | (have q9 : k = 2 ∨ k = 3 ∨ k = 7 := (by omega); have q8 : ¬ i = 0 := (by omega); have q7 : ¬ i = 1 := (by omega); rw [AF_x q9, if_neg q8, if_neg q7]; done) | fail)) rfl
  ·
    refine g_tsw (off := 151) (tgt := 160) h dX7_numberFault_9 (nI 3) (by rw [hc9]) (by decide) (by decide) (by decide +kernel) (by decide) ?_
    refine g_iload_n h dX7_numberFault_160 3 rfl ?_
    refine g_iconst h dX7_numberFault_161 (by decide) ?_
    refine g_icmpN_ge h dX7_numberFault_162 (by omega) (by omega) (fun c162 => ?_) (fun c162 => ?_)
    ·
      refine g_iload h dX7_numberFault_174 4 rfl ?_
      refine g_iconst h dX7_numberFault_176 (by decide) ?_
      refine g_bipush h dX7_numberFault_177 (by decide) ?_
      refine g_cspi (rest := []) h (c_rangeFault hW v 1 99 (by first | omega | assumption | fail) (by omega) (by omega)) lX7_rangeFault mX7_141 (Nat.lt_of_lt_of_le (by decide) (Nat.le_refl _)) (by decide) rfl rfl rfl dX7_numberFault_179 ?_
      exact g_iret h hQ dX7_numberFault_182 (congrArg (fun z => some (Value.int z)) (show (nI (AF μ k i a v)) = (nI (rfa v 1 99)) by refine congrArg nI ?_; first | (have q9 : k = 0 := (by omega); rw [AF_0 q9]; (try unfold rfa); (repeat' split) <;> omega) | (have q9 : k = 5 := (by omega); exact AF_5 q9) | (have q9 : k = 6 := (by omega); exact AF_6 q9) | (have q9 : k = 4 := (by omega); first | (have q8 := of_decide_eq_true c115; rw [AF_4 q9, if_pos q8, c124, if_neg (by decide)]; done) | (have q8 := of_decide_eq_true c115; rw [AF_4 q9, if_pos q8, if_pos c124]; exact (nfa_y q8).symm) | (have q8 := of_decide_eq_false c115; rw [AF_4 q9, if_neg q8]; exact (nfa_n q8).symm)) | (have q9 : k = 1 := (by omega); have q8 : i = 0 := (by omega); rw [AF_1 q9, if_pos q8]; done) | (have q9 : k = 1 := (by omega); have q8 : ¬ i = 0 := (by omega); rw [AF_1 q9, if_neg q8]; done) | (have q9 : k = 2 ∨ k = 3 ∨ k = 7 := (by omega); have q7 : i < 2 := (by omega); rw [AF_x q9]; rcases (show i = 0 ∨ i = 1 by omega) with q8 | q8 <;> rw [q8] <;> rfl) | (have q9 : k = 2 ∨ k = 3 ∨ k = 7 := (by omega); have q8 : ¬ i = 0 := (by omega); have q7 : ¬ i = 1 := (by omega); rw [AF_x q9, if_neg q8, if_neg q7]; done) | fail)) rfl
    ·
      refine g_aload_n h dX7_numberFault_165 0 rfl ?_
      refine g_aload_n h dX7_numberFault_166 1 rfl ?_
      refine g_iload_n h dX7_numberFault_167 3 rfl ?_
      refine g_cvpi (rest := []) h (c_placeFault hW i v a m μ (by first | omega | decide | fail) (by first | exact hv | assumption | fail) (by assumption) (by first | omega | assumption | fail) (by omega) (by first | omega | assumption | fail) (by first | assumption | fail) (by intro z; exact h0 (by omega))) lX7_placeFault mX7_155 (Nat.lt_of_lt_of_le (by decide) (Nat.le_refl _)) (by decide) sc_15 rfl rfl rfl rfl dX7_numberFault_168 ?_
      refine g_goto h dX7_numberFault_171 ?_
      exact g_iret h hQ dX7_numberFault_182 (congrArg (fun z => some (Value.int z)) (show (nI (AF μ k i a v)) = (nI (if i = 0 then nfa μ v else (if v < nN μ then (if v = a then 4 else 0) else 3))) by refine congrArg nI ?_; first | (have q9 : k = 0 := (by omega); rw [AF_0 q9]; (try unfold rfa); (repeat' split) <;> omega) | (have q9 : k = 5 := (by omega); exact AF_5 q9) | (have q9 : k = 6 := (by omega); exact AF_6 q9) | (have q9 : k = 4 := (by omega); first | (have q8 := of_decide_eq_true c115; rw [AF_4 q9, if_pos q8, c124, if_neg (by decide)]; done) | (have q8 := of_decide_eq_true c115; rw [AF_4 q9, if_pos q8, if_pos c124]; exact (nfa_y q8).symm) | (have q8 := of_decide_eq_false c115; rw [AF_4 q9, if_neg q8]; exact (nfa_n q8).symm)) | (have q9 : k = 1 := (by omega); have q8 : i = 0 := (by omega); rw [AF_1 q9, if_pos q8]; done) | (have q9 : k = 1 := (by omega); have q8 : ¬ i = 0 := (by omega); rw [AF_1 q9, if_neg q8]; done) | (have q9 : k = 2 ∨ k = 3 ∨ k = 7 := (by omega); have q7 : i < 2 := (by omega); rw [AF_x q9]; rcases (show i = 0 ∨ i = 1 by omega) with q8 | q8 <;> rw [q8] <;> rfl) | (have q9 : k = 2 ∨ k = 3 ∨ k = 7 := (by omega); have q8 : ¬ i = 0 := (by omega); have q7 : ¬ i = 1 := (by omega); rw [AF_x q9, if_neg q8, if_neg q7]; done) | fail)) rfl
  ·
    refine g_tsw (off := 151) (tgt := 160) h dX7_numberFault_9 (nI 4) (by rw [hc9]) (by decide) (by decide) (by decide +kernel) (by decide) ?_
    refine g_iload_n h dX7_numberFault_160 3 rfl ?_
    refine g_iconst h dX7_numberFault_161 (by decide) ?_
    refine g_icmpN_ge h dX7_numberFault_162 (by omega) (by omega) (fun c162 => ?_) (fun c162 => ?_)
    ·
      refine g_iload h dX7_numberFault_174 4 rfl ?_
      refine g_iconst h dX7_numberFault_176 (by decide) ?_
      refine g_bipush h dX7_numberFault_177 (by decide) ?_
      refine g_cspi (rest := []) h (c_rangeFault hW v 1 99 (by first | omega | assumption | fail) (by omega) (by omega)) lX7_rangeFault mX7_141 (Nat.lt_of_lt_of_le (by decide) (Nat.le_refl _)) (by decide) rfl rfl rfl dX7_numberFault_179 ?_
      exact g_iret h hQ dX7_numberFault_182 (congrArg (fun z => some (Value.int z)) (show (nI (AF μ k i a v)) = (nI (rfa v 1 99)) by refine congrArg nI ?_; first | (have q9 : k = 0 := (by omega); rw [AF_0 q9]; (try unfold rfa); (repeat' split) <;> omega) | (have q9 : k = 5 := (by omega); exact AF_5 q9) | (have q9 : k = 6 := (by omega); exact AF_6 q9) | (have q9 : k = 4 := (by omega); first | (have q8 := of_decide_eq_true c115; rw [AF_4 q9, if_pos q8, c124, if_neg (by decide)]; done) | (have q8 := of_decide_eq_true c115; rw [AF_4 q9, if_pos q8, if_pos c124]; exact (nfa_y q8).symm) | (have q8 := of_decide_eq_false c115; rw [AF_4 q9, if_neg q8]; exact (nfa_n q8).symm)) | (have q9 : k = 1 := (by omega); have q8 : i = 0 := (by omega); rw [AF_1 q9, if_pos q8]; done) | (have q9 : k = 1 := (by omega); have q8 : ¬ i = 0 := (by omega); rw [AF_1 q9, if_neg q8]; done) | (have q9 : k = 2 ∨ k = 3 ∨ k = 7 := (by omega); have q7 : i < 2 := (by omega); rw [AF_x q9]; rcases (show i = 0 ∨ i = 1 by omega) with q8 | q8 <;> rw [q8] <;> rfl) | (have q9 : k = 2 ∨ k = 3 ∨ k = 7 := (by omega); have q8 : ¬ i = 0 := (by omega); have q7 : ¬ i = 1 := (by omega); rw [AF_x q9, if_neg q8, if_neg q7]; done) | fail)) rfl
    ·
      refine g_aload_n h dX7_numberFault_165 0 rfl ?_
      refine g_aload_n h dX7_numberFault_166 1 rfl ?_
      refine g_iload_n h dX7_numberFault_167 3 rfl ?_
      refine g_cvpi (rest := []) h (c_placeFault hW i v a m μ (by first | omega | decide | fail) (by first | exact hv | assumption | fail) (by assumption) (by first | omega | assumption | fail) (by omega) (by first | omega | assumption | fail) (by first | assumption | fail) (by intro z; exact h0 (by omega))) lX7_placeFault mX7_155 (Nat.lt_of_lt_of_le (by decide) (Nat.le_refl _)) (by decide) sc_15 rfl rfl rfl rfl dX7_numberFault_168 ?_
      refine g_goto h dX7_numberFault_171 ?_
      exact g_iret h hQ dX7_numberFault_182 (congrArg (fun z => some (Value.int z)) (show (nI (AF μ k i a v)) = (nI (if i = 0 then nfa μ v else (if v < nN μ then (if v = a then 4 else 0) else 3))) by refine congrArg nI ?_; first | (have q9 : k = 0 := (by omega); rw [AF_0 q9]; (try unfold rfa); (repeat' split) <;> omega) | (have q9 : k = 5 := (by omega); exact AF_5 q9) | (have q9 : k = 6 := (by omega); exact AF_6 q9) | (have q9 : k = 4 := (by omega); first | (have q8 := of_decide_eq_true c115; rw [AF_4 q9, if_pos q8, c124, if_neg (by decide)]; done) | (have q8 := of_decide_eq_true c115; rw [AF_4 q9, if_pos q8, if_pos c124]; exact (nfa_y q8).symm) | (have q8 := of_decide_eq_false c115; rw [AF_4 q9, if_neg q8]; exact (nfa_n q8).symm)) | (have q9 : k = 1 := (by omega); have q8 : i = 0 := (by omega); rw [AF_1 q9, if_pos q8]; done) | (have q9 : k = 1 := (by omega); have q8 : ¬ i = 0 := (by omega); rw [AF_1 q9, if_neg q8]; done) | (have q9 : k = 2 ∨ k = 3 ∨ k = 7 := (by omega); have q7 : i < 2 := (by omega); rw [AF_x q9]; rcases (show i = 0 ∨ i = 1 by omega) with q8 | q8 <;> rw [q8] <;> rfl) | (have q9 : k = 2 ∨ k = 3 ∨ k = 7 := (by omega); have q8 : ¬ i = 0 := (by omega); have q7 : ¬ i = 1 := (by omega); rw [AF_x q9, if_neg q8, if_neg q7]; done) | fail)) rfl
  ·
    refine g_tsw (off := 100) (tgt := 109) h dX7_numberFault_9 (nI 5) (by rw [hc9]) (by decide) (by decide) (by decide +kernel) (by decide) ?_
    refine g_aload_n h dX7_numberFault_109 1 rfl ?_
    refine g_iload h dX7_numberFault_110 4 rfl ?_
    refine g_cvpi (rest := []) h (c_isNode hW (nI v) m μ (by first | omega | decide | fail) (by first | exact hv | assumption | fail)) lX5_isNode mX7_145 (Nat.lt_of_lt_of_le (by decide) (Nat.le_refl _)) (by decide) (sM_0 (m := m) (by omega)) rfl rfl rfl rfl dX7_numberFault_112 ?_
    refine g_top (y := (b2i (decide (v < nN μ)))) (congrArg b2i (nd_b hI hv9)) ?_
    refine g_ifB_eq h dX7_numberFault_115 (fun c115 => ?_) (fun c115 => ?_)
    ·
      refine g_aload_n h dX7_numberFault_131 1 rfl ?_
      refine g_iload h dX7_numberFault_132 4 rfl ?_
      refine g_cspi (rest := []) h (c_nodeFault hW v m μ (by first | omega | decide | fail) (by first | exact hv | assumption | fail) (by assumption) (by first | omega | assumption | fail)) lX7_nodeFault mX7_151 (Nat.lt_of_lt_of_le (by decide) (Nat.le_refl _)) (by decide) rfl rfl rfl dX7_numberFault_134 ?_
      exact g_iret h hQ dX7_numberFault_137 (congrArg (fun z => some (Value.int z)) (show (nI (AF μ k i a v)) = (nI (nfa μ v)) by refine congrArg nI ?_; first | (have q9 : k = 0 := (by omega); rw [AF_0 q9]; (try unfold rfa); (repeat' split) <;> omega) | (have q9 : k = 5 := (by omega); exact AF_5 q9) | (have q9 : k = 6 := (by omega); exact AF_6 q9) | (have q9 : k = 4 := (by omega); first | (have q8 := of_decide_eq_true c115; rw [AF_4 q9, if_pos q8, c124, if_neg (by decide)]; done) | (have q8 := of_decide_eq_true c115; rw [AF_4 q9, if_pos q8, if_pos c124]; exact (nfa_y q8).symm) | (have q8 := of_decide_eq_false c115; rw [AF_4 q9, if_neg q8]; exact (nfa_n q8).symm)) | (have q9 : k = 1 := (by omega); have q8 : i = 0 := (by omega); rw [AF_1 q9, if_pos q8]; done) | (have q9 : k = 1 := (by omega); have q8 : ¬ i = 0 := (by omega); rw [AF_1 q9, if_neg q8]; done) | (have q9 : k = 2 ∨ k = 3 ∨ k = 7 := (by omega); have q7 : i < 2 := (by omega); rw [AF_x q9]; rcases (show i = 0 ∨ i = 1 by omega) with q8 | q8 <;> rw [q8] <;> rfl) | (have q9 : k = 2 ∨ k = 3 ∨ k = 7 := (by omega); have q8 : ¬ i = 0 := (by omega); have q7 : ¬ i = 1 := (by omega); rw [AF_x q9, if_neg q8, if_neg q7]; done) | fail)) rfl
    ·
      refine g_aload_n h dX7_numberFault_118 1 rfl ?_
      refine g_iload h dX7_numberFault_119 4 rfl ?_
      refine g_cvpi (rest := []) h (c_isOnN hW v m μ (by first | omega | decide | fail) (by first | exact hv | assumption | fail) (by assumption) (by have := of_decide_eq_true c115; omega)) lX5_isOn mX7_148 (Nat.lt_of_lt_of_le (by decide) (Nat.le_refl _)) (by decide) (sM_0 (m := m) (by omega)) rfl rfl rfl rfl dX7_numberFault_121 ?_
      refine g_top (y := (b2i (tb (μ 1) v))) (by rw [decide_eq_true (show v < nN μ from of_decide_eq_true c115)]; rfl) ?_
      refine g_ifB_ne h dX7_numberFault_124 (fun c124 => ?_) (fun c124 => ?_)
      ·
        refine g_aload_n h dX7_numberFault_131 1 rfl ?_
        refine g_iload h dX7_numberFault_132 4 rfl ?_
        refine g_cspi (rest := []) h (c_nodeFault hW v m μ (by first | omega | decide | fail) (by first | exact hv | assumption | fail) (by assumption) (by first | omega | assumption | fail)) lX7_nodeFault mX7_151 (Nat.lt_of_lt_of_le (by decide) (Nat.le_refl _)) (by decide) rfl rfl rfl dX7_numberFault_134 ?_
        exact g_iret h hQ dX7_numberFault_137 (congrArg (fun z => some (Value.int z)) (show (nI (AF μ k i a v)) = (nI (nfa μ v)) by refine congrArg nI ?_; first | (have q9 : k = 0 := (by omega); rw [AF_0 q9]; (try unfold rfa); (repeat' split) <;> omega) | (have q9 : k = 5 := (by omega); exact AF_5 q9) | (have q9 : k = 6 := (by omega); exact AF_6 q9) | (have q9 : k = 4 := (by omega); first | (have q8 := of_decide_eq_true c115; rw [AF_4 q9, if_pos q8, c124, if_neg (by decide)]; done) | (have q8 := of_decide_eq_true c115; rw [AF_4 q9, if_pos q8, if_pos c124]; exact (nfa_y q8).symm) | (have q8 := of_decide_eq_false c115; rw [AF_4 q9, if_neg q8]; exact (nfa_n q8).symm)) | (have q9 : k = 1 := (by omega); have q8 : i = 0 := (by omega); rw [AF_1 q9, if_pos q8]; done) | (have q9 : k = 1 := (by omega); have q8 : ¬ i = 0 := (by omega); rw [AF_1 q9, if_neg q8]; done) | (have q9 : k = 2 ∨ k = 3 ∨ k = 7 := (by omega); have q7 : i < 2 := (by omega); rw [AF_x q9]; rcases (show i = 0 ∨ i = 1 by omega) with q8 | q8 <;> rw [q8] <;> rfl) | (have q9 : k = 2 ∨ k = 3 ∨ k = 7 := (by omega); have q8 : ¬ i = 0 := (by omega); have q7 : ¬ i = 1 := (by omega); rw [AF_x q9, if_neg q8, if_neg q7]; done) | fail)) rfl
      ·
        refine g_iconst h dX7_numberFault_127 (by decide) ?_
        refine g_goto h dX7_numberFault_128 ?_
        exact g_iret h hQ dX7_numberFault_137 (congrArg (fun z => some (Value.int z)) (show (nI (AF μ k i a v)) = (nI 5) by refine congrArg nI ?_; first | (have q9 : k = 0 := (by omega); rw [AF_0 q9]; (try unfold rfa); (repeat' split) <;> omega) | (have q9 : k = 5 := (by omega); exact AF_5 q9) | (have q9 : k = 6 := (by omega); exact AF_6 q9) | (have q9 : k = 4 := (by omega); first | (have q8 := of_decide_eq_true c115; rw [AF_4 q9, if_pos q8, c124, if_neg (by decide)]; done) | (have q8 := of_decide_eq_true c115; rw [AF_4 q9, if_pos q8, if_pos c124]; exact (nfa_y q8).symm) | (have q8 := of_decide_eq_false c115; rw [AF_4 q9, if_neg q8]; exact (nfa_n q8).symm)) | (have q9 : k = 1 := (by omega); have q8 : i = 0 := (by omega); rw [AF_1 q9, if_pos q8]; done) | (have q9 : k = 1 := (by omega); have q8 : ¬ i = 0 := (by omega); rw [AF_1 q9, if_neg q8]; done) | (have q9 : k = 2 ∨ k = 3 ∨ k = 7 := (by omega); have q7 : i < 2 := (by omega); rw [AF_x q9]; rcases (show i = 0 ∨ i = 1 by omega) with q8 | q8 <;> rw [q8] <;> rfl) | (have q9 : k = 2 ∨ k = 3 ∨ k = 7 := (by omega); have q8 : ¬ i = 0 := (by omega); have q7 : ¬ i = 1 := (by omega); rw [AF_x q9, if_neg q8, if_neg q7]; done) | fail)) rfl
  ·
    refine g_tsw (off := 82) (tgt := 91) h dX7_numberFault_9 (nI 6) (by rw [hc9]) (by decide) (by decide) (by decide +kernel) (by decide) ?_
    refine g_iload h dX7_numberFault_91 4 rfl ?_
    refine g_iconst h dX7_numberFault_93 (by decide) ?_
    refine g_bipush h dX7_numberFault_94 (by decide) ?_
    refine g_cspi (rest := []) h (c_rangeFault hW v 1 9 (by first | omega | assumption | fail) (by omega) (by omega)) lX7_rangeFault mX7_141 (Nat.lt_of_lt_of_le (by decide) (Nat.le_refl _)) (by decide) rfl rfl rfl dX7_numberFault_96 ?_
    exact g_iret h hQ dX7_numberFault_99 (congrArg (fun z => some (Value.int z)) (show (nI (AF μ k i a v)) = (nI (rfa v 1 9)) by refine congrArg nI ?_; first | (have q9 : k = 0 := (by omega); rw [AF_0 q9]; (try unfold rfa); (repeat' split) <;> omega) | (have q9 : k = 5 := (by omega); exact AF_5 q9) | (have q9 : k = 6 := (by omega); exact AF_6 q9) | (have q9 : k = 4 := (by omega); first | (have q8 := of_decide_eq_true c115; rw [AF_4 q9, if_pos q8, c124, if_neg (by decide)]; done) | (have q8 := of_decide_eq_true c115; rw [AF_4 q9, if_pos q8, if_pos c124]; exact (nfa_y q8).symm) | (have q8 := of_decide_eq_false c115; rw [AF_4 q9, if_neg q8]; exact (nfa_n q8).symm)) | (have q9 : k = 1 := (by omega); have q8 : i = 0 := (by omega); rw [AF_1 q9, if_pos q8]; done) | (have q9 : k = 1 := (by omega); have q8 : ¬ i = 0 := (by omega); rw [AF_1 q9, if_neg q8]; done) | (have q9 : k = 2 ∨ k = 3 ∨ k = 7 := (by omega); have q7 : i < 2 := (by omega); rw [AF_x q9]; rcases (show i = 0 ∨ i = 1 by omega) with q8 | q8 <;> rw [q8] <;> rfl) | (have q9 : k = 2 ∨ k = 3 ∨ k = 7 := (by omega); have q8 : ¬ i = 0 := (by omega); have q7 : ¬ i = 1 := (by omega); rw [AF_x q9, if_neg q8, if_neg q7]; done) | fail)) rfl
  ·
    refine g_tsw (off := 91) (tgt := 100) h dX7_numberFault_9 (nI 7) (by rw [hc9]) (by decide) (by decide) (by decide +kernel) (by decide) ?_
    refine g_iload h dX7_numberFault_100 4 rfl ?_
    refine g_iconst h dX7_numberFault_102 (by decide) ?_
    refine g_bipush h dX7_numberFault_103 (by decide) ?_
    refine g_cspi (rest := []) h (c_rangeFault hW v 1 99 (by first | omega | assumption | fail) (by omega) (by omega)) lX7_rangeFault mX7_141 (Nat.lt_of_lt_of_le (by decide) (Nat.le_refl _)) (by decide) rfl rfl rfl dX7_numberFault_105 ?_
    exact g_iret h hQ dX7_numberFault_108 (congrArg (fun z => some (Value.int z)) (show (nI (AF μ k i a v)) = (nI (rfa v 1 99)) by refine congrArg nI ?_; first | (have q9 : k = 0 := (by omega); rw [AF_0 q9]; (try unfold rfa); (repeat' split) <;> omega) | (have q9 : k = 5 := (by omega); exact AF_5 q9) | (have q9 : k = 6 := (by omega); exact AF_6 q9) | (have q9 : k = 4 := (by omega); first | (have q8 := of_decide_eq_true c115; rw [AF_4 q9, if_pos q8, c124, if_neg (by decide)]; done) | (have q8 := of_decide_eq_true c115; rw [AF_4 q9, if_pos q8, if_pos c124]; exact (nfa_y q8).symm) | (have q8 := of_decide_eq_false c115; rw [AF_4 q9, if_neg q8]; exact (nfa_n q8).symm)) | (have q9 : k = 1 := (by omega); have q8 : i = 0 := (by omega); rw [AF_1 q9, if_pos q8]; done) | (have q9 : k = 1 := (by omega); have q8 : ¬ i = 0 := (by omega); rw [AF_1 q9, if_neg q8]; done) | (have q9 : k = 2 ∨ k = 3 ∨ k = 7 := (by omega); have q7 : i < 2 := (by omega); rw [AF_x q9]; rcases (show i = 0 ∨ i = 1 by omega) with q8 | q8 <;> rw [q8] <;> rfl) | (have q9 : k = 2 ∨ k = 3 ∨ k = 7 := (by omega); have q8 : ¬ i = 0 := (by omega); have q7 : ¬ i = 1 := (by omega); rw [AF_x q9, if_neg q8, if_neg q7]; done) | fail)) rfl
  ·
    refine g_tswOut (tgt := 160) h dX7_numberFault_9 (by rw [hc9]; decide) (by decide) ?_
    refine g_iload_n h dX7_numberFault_160 3 rfl ?_
    refine g_iconst h dX7_numberFault_161 (by decide) ?_
    refine g_icmpN_ge h dX7_numberFault_162 (by omega) (by omega) (fun c162 => ?_) (fun c162 => ?_)
    ·
      refine g_iload h dX7_numberFault_174 4 rfl ?_
      refine g_iconst h dX7_numberFault_176 (by decide) ?_
      refine g_bipush h dX7_numberFault_177 (by decide) ?_
      refine g_cspi (rest := []) h (c_rangeFault hW v 1 99 (by first | omega | assumption | fail) (by omega) (by omega)) lX7_rangeFault mX7_141 (Nat.lt_of_lt_of_le (by decide) (Nat.le_refl _)) (by decide) rfl rfl rfl dX7_numberFault_179 ?_
      exact g_iret h hQ dX7_numberFault_182 (congrArg (fun z => some (Value.int z)) (show (nI (AF μ k i a v)) = (nI (rfa v 1 99)) by refine congrArg nI ?_; first | (have q9 : k = 0 := (by omega); rw [AF_0 q9]; (try unfold rfa); (repeat' split) <;> omega) | (have q9 : k = 5 := (by omega); exact AF_5 q9) | (have q9 : k = 6 := (by omega); exact AF_6 q9) | (have q9 : k = 4 := (by omega); first | (have q8 := of_decide_eq_true c115; rw [AF_4 q9, if_pos q8, c124, if_neg (by decide)]; done) | (have q8 := of_decide_eq_true c115; rw [AF_4 q9, if_pos q8, if_pos c124]; exact (nfa_y q8).symm) | (have q8 := of_decide_eq_false c115; rw [AF_4 q9, if_neg q8]; exact (nfa_n q8).symm)) | (have q9 : k = 1 := (by omega); have q8 : i = 0 := (by omega); rw [AF_1 q9, if_pos q8]; done) | (have q9 : k = 1 := (by omega); have q8 : ¬ i = 0 := (by omega); rw [AF_1 q9, if_neg q8]; done) | (have q9 : k = 2 ∨ k = 3 ∨ k = 7 := (by omega); have q7 : i < 2 := (by omega); rw [AF_x q9]; rcases (show i = 0 ∨ i = 1 by omega) with q8 | q8 <;> rw [q8] <;> rfl) | (have q9 : k = 2 ∨ k = 3 ∨ k = 7 := (by omega); have q8 : ¬ i = 0 := (by omega); have q7 : ¬ i = 1 := (by omega); rw [AF_x q9, if_neg q8, if_neg q7]; done) | fail)) rfl
    ·
      refine g_aload_n h dX7_numberFault_165 0 rfl ?_
      refine g_aload_n h dX7_numberFault_166 1 rfl ?_
      refine g_iload_n h dX7_numberFault_167 3 rfl ?_
      refine g_cvpi (rest := []) h (c_placeFault hW i v a m μ (by first | omega | decide | fail) (by first | exact hv | assumption | fail) (by assumption) (by first | omega | assumption | fail) (by omega) (by first | omega | assumption | fail) (by first | assumption | fail) (by intro z; exact h0 (by omega))) lX7_placeFault mX7_155 (Nat.lt_of_lt_of_le (by decide) (Nat.le_refl _)) (by decide) sc_15 rfl rfl rfl rfl dX7_numberFault_168 ?_
      refine g_goto h dX7_numberFault_171 ?_
      exact g_iret h hQ dX7_numberFault_182 (congrArg (fun z => some (Value.int z)) (show (nI (AF μ k i a v)) = (nI (if i = 0 then nfa μ v else (if v < nN μ then (if v = a then 4 else 0) else 3))) by refine congrArg nI ?_; first | (have q9 : k = 0 := (by omega); rw [AF_0 q9]; (try unfold rfa); (repeat' split) <;> omega) | (have q9 : k = 5 := (by omega); exact AF_5 q9) | (have q9 : k = 6 := (by omega); exact AF_6 q9) | (have q9 : k = 4 := (by omega); first | (have q8 := of_decide_eq_true c115; rw [AF_4 q9, if_pos q8, c124, if_neg (by decide)]; done) | (have q8 := of_decide_eq_true c115; rw [AF_4 q9, if_pos q8, if_pos c124]; exact (nfa_y q8).symm) | (have q8 := of_decide_eq_false c115; rw [AF_4 q9, if_neg q8]; exact (nfa_n q8).symm)) | (have q9 : k = 1 := (by omega); have q8 : i = 0 := (by omega); rw [AF_1 q9, if_pos q8]; done) | (have q9 : k = 1 := (by omega); have q8 : ¬ i = 0 := (by omega); rw [AF_1 q9, if_neg q8]; done) | (have q9 : k = 2 ∨ k = 3 ∨ k = 7 := (by omega); have q7 : i < 2 := (by omega); rw [AF_x q9]; rcases (show i = 0 ∨ i = 1 by omega) with q8 | q8 <;> rw [q8] <;> rfl) | (have q9 : k = 2 ∨ k = 3 ∨ k = 7 := (by omega); have q8 : ¬ i = 0 := (by omega); have q7 : ¬ i = 1 := (by omega); rw [AF_x q9, if_neg q8, if_neg q7]; done) | fail)) rfl

set_option maxRecDepth 100000 in
set_option maxHeartbeats 4000000 in
theorem c_readNumber {l : Launch} {w : Wd} (hW : Wi w) {σ : Mem} (k i av e0 L : Nat) (x : Nat → Nat) (p0 : Int32) (m : Nat) (μ : Nat → Int32) (he : nps x L e0 i ≤ L) (hL : L ≤ 400) (hI : MI μ) (hm : m < 6) (hv : vw (vb m) σ = μ) (hk8 : k < 8) (hi3 : i < na9 k) (ha9 : 1 ≤ i → av = txV x L e0) (ha8 : av < 1000) (ht15000_σ : σ 15000 = (nI 0)) (ht15001_σ : σ 15001 = p0) (ht15002_σ : σ 15002 = (nI L)) (ht15005_σ : σ 15005 = (nI (nps x L e0 i))) (hcTX_σ : TX 15600 σ L x) (hcNU_σ : NU σ x L e0 i) : MC l w qX7_readNumber 4 [.ref (w.1 15), .ref (w.1 (mc m 0)), .int (nI (k + 1)), .int (nI i)] σ none (fun σ' => (σ' 15002 = (nI L)) ∧ (σ' 15003 = (nI (txK x L (nps x L e0 i)))) ∧ (σ' 15004 = (nI (txS x L (nps x L e0 i)))) ∧ (σ' 15005 = (nI (txE x L (nps x L e0 i)))) ∧ (σ' 15000 = (nI (af9 x L μ k i av (nps x L e0 i)))) ∧ (σ' 15001 = (if af9 x L μ k i av (nps x L e0 i) = 0 then p0 else nI (txS x L (nps x L e0 i)))) ∧ (TX 15600 σ' L x) ∧ (af9 x L μ k i av (nps x L e0 i) = 0 → NU σ' x L e0 (i + 1)) ∧ (∀ a, (a ≠ 15000 ∧ a ≠ 15001 ∧ (a < 15003 ∨ 15005 < a) ∧ (a < 15010 ∨ 15013 ≤ a)) → σ' a = σ a)) := by
  refine MC.of hW (by decide +kernel) (Nat.le_of_ble_eq_true rfl) (fun X h hQ hnm => ?_)
  have h : Fx X w cX7_readNumber 4 RX7 4 := h
  have hQ : Qx X w none none (fun σ' => (σ' 15002 = (nI L)) ∧ (σ' 15003 = (nI (txK x L (nps x L e0 i)))) ∧ (σ' 15004 = (nI (txS x L (nps x L e0 i)))) ∧ (σ' 15005 = (nI (txE x L (nps x L e0 i)))) ∧ (σ' 15000 = (nI (af9 x L μ k i av (nps x L e0 i)))) ∧ (σ' 15001 = (if af9 x L μ k i av (nps x L e0 i) = 0 then p0 else nI (txS x L (nps x L e0 i)))) ∧ (TX 15600 σ' L x) ∧ (af9 x L μ k i av (nps x L e0 i) = 0 → NU σ' x L e0 (i + 1)) ∧ (∀ a, (a ≠ 15000 ∧ a ≠ 15001 ∧ (a < 15003 ∨ 15005 < a) ∧ (a < 15010 ∨ 15013 ≤ a)) → σ' a = σ a)) := hQ
  have hN8 := mi_8 hI
  have hn3 : na9 k ≤ 3 := by unfold na9; (repeat' split) <;> omega
  have haf := af9_lt (x := x) (L := L) (μ := μ) (k := k) (i := i) (a := av) (e := (nps x L e0 i))
  have htf := tf9_lt (K := txK x L (nps x L e0 i)) (q := 2)
  have hcFR_σ : ∀ a, (a ≠ 15000 ∧ a ≠ 15001 ∧ (a < 15003 ∨ 15005 < a) ∧ (a < 15010 ∨ 15013 ≤ a)) → σ a = σ a := fun _ _ => rfl
  show G X w 4 0 [(0, .ref (w.1 15)), (1, .ref (w.1 (mc m 0))), (2, .int (nI (k + 1))), (3, .int (nI i))] [] σ
  refine g_aload_n h dX7_readNumber_0 0 rfl ?_
  refine g_iconst h dX7_readNumber_1 (by decide) ?_
  refine g_cvv (rest := []) h (c_expect hW 2 (nps x L e0 i) L x p0 (by first | omega | assumption | fail) (by first | omega | assumption | fail) (by omega) (by first | exact ht15000_σ | assumption | fail) (by first | exact ht15001_σ | assumption | fail) (by first | exact ht15002_σ | assumption | fail) (by first | exact ht15005_σ | assumption | fail) (by first | exact hcTX_σ | assumption | fail)) lX7_expect mX7_86 (Nat.lt_of_lt_of_le (by decide) (Nat.le_refl _)) (by decide) sc_15 rfl rfl rfl rfl dX7_readNumber_2 (fun σp eσp => ?_)
  obtain ⟨eσp_a, eσp_b, eσp_c, eσp_d, eσp_e, eσp_f, eσp_g, eσp_h⟩ := eσp
  have eσp_a : σp 15002 = (nI L) := eσp_a
  have eσp_b : σp 15003 = (nI (txK x L (nps x L e0 i))) := eσp_b
  have eσp_c : σp 15004 = (nI (txS x L (nps x L e0 i))) := eσp_c
  have eσp_d : σp 15005 = (nI (txE x L (nps x L e0 i))) := eσp_d
  have eσp_e : σp 15000 = (nI (tf9 (txK x L (nps x L e0 i)) 2)) := eσp_e
  have eσp_f : σp 15001 = (if (tf9 (txK x L (nps x L e0 i)) 2) = 0 then p0 else nI (txS x L (nps x L e0 i))) := eσp_f
  have eσp_g : TX 15600 σp L x := eσp_g
  have eσp_h : ∀ a, (a ≠ 15000 ∧ a ≠ 15001 ∧ (a < 15003 ∨ 15005 < a)) → σp a = σ a := eσp_h
  have ht15002_σp : σp 15002 = (nI L) := eσp_a
  have ht15003_σp : σp 15003 = (nI (txK x L (nps x L e0 i))) := eσp_b
  have ht15004_σp : σp 15004 = (nI (txS x L (nps x L e0 i))) := eσp_c
  have ht15005_σp : σp 15005 = (nI (txE x L (nps x L e0 i))) := eσp_d
  have ht15000_σp : σp 15000 = (nI (tf9 (txK x L (nps x L e0 i)) 2)) := eσp_e
  have ht15001_σp : σp 15001 = (if (tf9 (txK x L (nps x L e0 i)) 2) = 0 then p0 else nI (txS x L (nps x L e0 i))) := eσp_f
  have hcTX_σp : TX 15600 σp L x := eσp_g
  have hcNU_σp : NU σp x L e0 i := by exact NU.fr hcNU_σ (fun a ha hb => eσp_h a (by first | omega | (simp only [vb] at *; omega)))
  have hcFR_σp : ∀ a, (a ≠ 15000 ∧ a ≠ 15001 ∧ (a < 15003 ∨ 15005 < a) ∧ (a < 15010 ∨ 15013 ≤ a)) → σp a = σ a := by intro a ha; exact Eq.trans (b := σ a) (eσp_h a (by first | omega | (simp only [vb] at *; omega))) (hcFR_σ a ha)
  have hvσp : vw (vb m) σp = μ := by rw [vw_fr (σ := σ) (fun j _ _ => eσp_h _ (by first | omega | (simp only [vb] at *; omega)))]; first | exact hv | assumption
  refine g_aload_n h dX7_readNumber_5 0 rfl ?_
  refine g_geti h dX7_readNumber_6 gX7_46 sc_15 rfl ?_
  refine g_top (y := (nI (tf9 (txK x L (nps x L e0 i)) 2))) (by first | exact ht15000_σp | assumption) ?_
  refine g_ifN_ne h dX7_readNumber_9 (by omega) (fun c9 => ?_) (fun c9 => ?_)
  ·
    have hF : af9 x L μ k i av (nps x L e0 i) = tf9 (txK x L (nps x L e0 i)) 2 := by unfold af9; exact if_neg (fun z => c9 (tf9_y z))
    exact g_vret h hQ dX7_readNumber_33 rfl (by exact ⟨(by first | exact ht15002_σp | assumption | fail), (by first | exact ht15003_σp | assumption | fail), (by first | exact ht15004_σp | assumption | fail), (by first | exact ht15005_σp | assumption | fail), (by rw [hF]; exact ht15000_σp), (by rw [hF]; exact ht15001_σp), (by first | exact hcTX_σp | assumption | fail), (by first | (intro z; rw [hF] at z; exact absurd z c9) | (intro _; exact hcNU_σp) | fail), (by exact hcFR_σp)⟩)
  ·
    have hK := tf9_0 c9
    have hF : af9 x L μ k i av (nps x L e0 i) = AF μ k i av (txV x L (nps x L e0 i)) := by unfold af9; exact if_pos hK
    have hv9 := txV_lt hK
    have ht15000_σp : σp 15000 = (nI 0) := by rw [ht15000_σp, c9]
    have ht15001_σp : σp 15001 = p0 := by rw [ht15001_σp, if_pos c9]
    refine g_aload_n h dX7_readNumber_12 0 rfl ?_
    refine g_getr h dX7_readNumber_13 gX7_15 sc_15 rfl ?_
    refine g_iload_n h dX7_readNumber_16 3 rfl ?_
    refine g_aload_n h dX7_readNumber_17 0 rfl ?_
    refine g_cvpi (rest := [.int (nI i), .ref (w.1 17)]) h (c_numberHere hW (nps x L e0 i) L x (by first | omega | assumption | fail) (by first | omega | assumption | fail) (by exact hK) (by first | exact ht15002_σp | assumption | fail) (by first | exact ht15004_σp | assumption | fail) (by first | exact ht15005_σp | assumption | fail) (by first | exact hcTX_σp | assumption | fail)) lX7_numberHere mX7_93 (Nat.lt_of_lt_of_le (by decide) (Nat.le_refl _)) (by decide) sc_15 rfl rfl rfl rfl dX7_readNumber_18 ?_
    refine g_iast h dX7_readNumber_21 sc_17 (by omega) ?_
    refine g_nm (fun σw eσw => ?_)
    have eσw : σw = upd σp (15010 + i) (nI (txV x L (nps x L e0 i))) := eσw
    have ht15002_σw : σw 15002 = (nI L) := by rw [eσw, upd_ne (by first | omega | (simp only [vb] at *; omega))]; first | exact ht15002_σp | assumption
    have ht15003_σw : σw 15003 = (nI (txK x L (nps x L e0 i))) := by rw [eσw, upd_ne (by first | omega | (simp only [vb] at *; omega))]; first | exact ht15003_σp | assumption
    have ht15004_σw : σw 15004 = (nI (txS x L (nps x L e0 i))) := by rw [eσw, upd_ne (by first | omega | (simp only [vb] at *; omega))]; first | exact ht15004_σp | assumption
    have ht15005_σw : σw 15005 = (nI (txE x L (nps x L e0 i))) := by rw [eσw, upd_ne (by first | omega | (simp only [vb] at *; omega))]; first | exact ht15005_σp | assumption
    have ht15000_σw : σw 15000 = (nI 0) := by rw [eσw, upd_ne (by first | omega | (simp only [vb] at *; omega))]; first | exact ht15000_σp | assumption
    have ht15001_σw : σw 15001 = p0 := by rw [eσw, upd_ne (by first | omega | (simp only [vb] at *; omega))]; first | exact ht15001_σp | assumption
    have hcTX_σw : TX 15600 σw L x := by rw [eσw]; exact TX.fr hcTX_σp (fun a ha hb => upd_ne (by first | omega | (simp only [vb] at *; omega)))
    have hcFR_σw : ∀ a, (a ≠ 15000 ∧ a ≠ 15001 ∧ (a < 15003 ∨ 15005 < a) ∧ (a < 15010 ∨ 15013 ≤ a)) → σw a = σ a := by intro a ha; exact Eq.trans (b := σp a) (by rw [eσw, upd_ne (by first | omega | (simp only [vb] at *; omega))]) (hcFR_σp a ha)
    have hvσw : vw (vb m) σw = μ := by rw [eσw, vw_out (by first | omega | (simp only [vb] at *; omega))]; first | exact hvσp | assumption
    have hcNU_σw : NU σw x L e0 (i + 1) := NU.more (NU.fr hcNU_σp (fun a h9 h8 => by rw [eσw, upd_ne (by omega)])) (by rw [eσw]; exact upd_eq)
    refine g_aload_n h dX7_readNumber_22 0 rfl ?_
    refine g_aload_n h dX7_readNumber_23 0 rfl ?_
    refine g_aload_n h dX7_readNumber_24 1 rfl ?_
    refine g_iload_n h dX7_readNumber_25 2 rfl ?_
    refine g_iload_n h dX7_readNumber_26 3 rfl ?_
    refine g_cvpi (rest := [.ref (w.1 15)]) h (c_numberFault hW k i (txV x L (nps x L e0 i)) av m μ (by first | omega | decide | fail) (by first | exact hvσw | assumption | fail) (by assumption) (by first | omega | assumption | fail) (by omega) (by omega) (by first | omega | assumption | fail) (by rw [eσw]; exact upd_eq) (by intro z; rw [eσw, upd_ne (by omega), ha9 z]; exact hcNU_σp 0 z)) lX7_numberFault mX7_96 (Nat.lt_of_lt_of_le (by decide) (Nat.le_refl _)) (by decide) sc_15 rfl rfl rfl rfl dX7_readNumber_27 ?_
    refine g_cvv (rest := []) h (c_finds hW (AF μ k i av (txV x L (nps x L e0 i))) (txS x L (nps x L e0 i)) p0 (by exact AF_lt) (by first | exact ht15000_σw | assumption | fail) (by first | exact ht15001_σw | assumption | fail) (by first | exact ht15004_σw | assumption | fail)) lX7_finds mX7_66 (Nat.lt_of_lt_of_le (by decide) (Nat.le_refl _)) (by decide) sc_15 rfl rfl rfl rfl dX7_readNumber_30 (fun σ_1 eσ_1 => ?_)
    obtain ⟨eσ_1_a, eσ_1_b, eσ_1_c⟩ := eσ_1
    have eσ_1_a : σ_1 15000 = (nI (AF μ k i av (txV x L (nps x L e0 i)))) := eσ_1_a
    have eσ_1_b : σ_1 15001 = (if (AF μ k i av (txV x L (nps x L e0 i))) = 0 then p0 else nI (txS x L (nps x L e0 i))) := eσ_1_b
    have eσ_1_c : ∀ a, (a ≠ 15000 ∧ a ≠ 15001) → σ_1 a = σw a := eσ_1_c
    have ht15002_σ_1 : σ_1 15002 = (nI L) := by rw [eσ_1_c _ (by first | omega | (simp only [vb] at *; omega))]; first | exact ht15002_σw | assumption
    have ht15003_σ_1 : σ_1 15003 = (nI (txK x L (nps x L e0 i))) := by rw [eσ_1_c _ (by first | omega | (simp only [vb] at *; omega))]; first | exact ht15003_σw | assumption
    have ht15004_σ_1 : σ_1 15004 = (nI (txS x L (nps x L e0 i))) := by rw [eσ_1_c _ (by first | omega | (simp only [vb] at *; omega))]; first | exact ht15004_σw | assumption
    have ht15005_σ_1 : σ_1 15005 = (nI (txE x L (nps x L e0 i))) := by rw [eσ_1_c _ (by first | omega | (simp only [vb] at *; omega))]; first | exact ht15005_σw | assumption
    have ht15000_σ_1 : σ_1 15000 = (nI (AF μ k i av (txV x L (nps x L e0 i)))) := eσ_1_a
    have ht15001_σ_1 : σ_1 15001 = (if (AF μ k i av (txV x L (nps x L e0 i))) = 0 then p0 else nI (txS x L (nps x L e0 i))) := eσ_1_b
    have hcTX_σ_1 : TX 15600 σ_1 L x := by exact TX.fr hcTX_σw (fun a ha hb => eσ_1_c a (by first | omega | (simp only [vb] at *; omega)))
    have hcFR_σ_1 : ∀ a, (a ≠ 15000 ∧ a ≠ 15001 ∧ (a < 15003 ∨ 15005 < a) ∧ (a < 15010 ∨ 15013 ≤ a)) → σ_1 a = σ a := by intro a ha; exact Eq.trans (b := σw a) (eσ_1_c a (by first | omega | (simp only [vb] at *; omega))) (hcFR_σw a ha)
    have hcNU_σ_1 : NU σ_1 x L e0 (i + 1) := by exact NU.fr hcNU_σw (fun a ha hb => eσ_1_c a (by first | omega | (simp only [vb] at *; omega)))
    have hvσ_1 : vw (vb m) σ_1 = μ := by rw [vw_fr (σ := σw) (fun j _ _ => eσ_1_c _ (by first | omega | (simp only [vb] at *; omega)))]; first | exact hvσw | assumption
    exact g_vret h hQ dX7_readNumber_33 rfl (by exact ⟨(by first | exact ht15002_σ_1 | assumption | fail), (by first | exact ht15003_σ_1 | assumption | fail), (by first | exact ht15004_σ_1 | assumption | fail), (by first | exact ht15005_σ_1 | assumption | fail), (by rw [hF]; exact ht15000_σ_1), (by rw [hF]; exact ht15001_σ_1), (by first | exact hcTX_σ_1 | assumption | fail), (by first | (intro z; rw [hF] at z; exact absurd z c9) | (intro _; exact hcNU_σ_1) | fail), (by exact hcFR_σ_1)⟩)

theorem na9_i {k : Nat} : na9 k ≤ 3 ∧ 1 ≤ na9 k ∧ (k = 1 → na9 k = 2) ∧ (k = 2 → na9 k = 2) ∧ (k = 3 → na9 k = 2) ∧ (k = 7 → na9 k = 3) := by
  unfold na9
  refine ⟨?_, ?_, ?_, ?_, ?_, ?_⟩ <;> ((repeat' split) <;> omega)
theorem EF_k {μ : Nat → Int32} {k k' a b c : Nat} (h : k = k') : EF μ k a b c = EF μ k' a b c := by rw [h]
theorem AF_k {μ : Nat → Int32} {k k' i a v : Nat} (h : k = k') (h0 : AF μ k i a v = 0) : AF μ k' i a v = 0 := by rw [← h]; exact h0

theorem no_in {N v : Nat} (h : (if 1 ≤ v ∧ v ≤ 8 then (if 8 < N + v then 6 else 0) else 4) = 0) : (1 ≤ v ∧ v ≤ 8) ∧ N + v ≤ 8 := by
  split at h
  · split at h
    · cases h
    · exact ⟨by assumption, by omega⟩
  · cases h
theorem of_in {μ : Nat → Int32} {a v : Nat} (h : AF μ 4 0 a v = 0) : v < nN μ := by
  rw [AF_4 rfl] at h
  split at h
  · assumption
  · cases h

set_option maxRecDepth 100000 in
set_option maxHeartbeats 16000000 in
theorem c_carryOut {l : Launch} {w : Wd} (hW : Wi w) {σ : Mem} (k e0 L : Nat) (x : Nat → Nat) (m : Nat) (μ : Nat → Int32) (hm : m < 6) (hv : vw (vb m) σ = μ) (hI : MI μ) (hk8 : k < 8) (hL : L ≤ 400) (hK0 : txK x L e0 = 2) (hf0 : AF μ k 0 0 (txV x L e0) = 0) (hf1 : 2 ≤ na9 k → AF μ k 1 (txV x L e0) (txV x L (txE x L e0)) = 0) (hf2 : 3 ≤ na9 k → AF μ k 2 (txV x L e0) (txV x L (txE x L (txE x L e0))) = 0) (hcNU_σ : NU σ x L e0 (na9 k)) : MC l w qX7_carryOut 2 [.ref (w.1 15), .ref (w.1 (mc m 0)), .int (nI (k + 1))] σ none (fun σ' => (vw (vb m) σ' = EF μ k (txV x L e0) (txV x L (txE x L e0)) (txV x L (txE x L (txE x L e0)))) ∧ (∀ a, (a < vb m ∨ vb m + 464 ≤ a) → σ' a = σ a)) := by
  refine MC.of hW (by decide +kernel) (Nat.le_of_ble_eq_true rfl) (fun X h hQ hnm => ?_)
  have h : Fx X w cX7_carryOut 6 RX7 2 := h
  have hQ : Qx X w none none (fun σ' => (vw (vb m) σ' = EF μ k (txV x L e0) (txV x L (txE x L e0)) (txV x L (txE x L (txE x L e0)))) ∧ (∀ a, (a < vb m ∨ vb m + 464 ≤ a) → σ' a = σ a)) := hQ
  have hN8 := mi_8 hI
  have hvb1 : vb m = 10000 + 528 * m := rfl
  obtain ⟨n3, n1, nk1, nk2, nk3, nk7⟩ := na9_i (k := k)
  have hv0 := txV_lt hK0
  have hcFR_σ : ∀ a, (a < vb m ∨ vb m + 464 ≤ a) → σ a = σ a := fun _ _ => rfl
  show G X w 6 0 [(0, .ref (w.1 15)), (1, .ref (w.1 (mc m 0))), (2, .int (nI (k + 1)))] [] σ
  refine g_aload_n h dX7_carryOut_0 0 rfl ?_
  refine g_getr h dX7_carryOut_1 gX7_15 sc_15 rfl ?_
  refine g_iconst h dX7_carryOut_4 (by decide) ?_
  refine g_iald h dX7_carryOut_5 sc_17 (by omega) ?_
  refine g_top (y := (nI (txV x L e0))) (hcNU_σ 0 (by omega)) ?_
  refine g_istore_n (L' := [(0, .ref (w.1 15)), (1, .ref (w.1 (mc m 0))), (2, .int (nI (k + 1))), (3, .int (nI (txV x L e0)))]) h dX7_carryOut_6 rfl (by decide) rfl ?_
  refine g_aload_n h dX7_carryOut_7 0 rfl ?_
  refine g_getr h dX7_carryOut_8 gX7_15 sc_15 rfl ?_
  refine g_iconst h dX7_carryOut_11 (by decide) ?_
  refine g_iald h dX7_carryOut_12 sc_17 (by omega) ?_
  refine g_istore (L' := [(0, .ref (w.1 15)), (1, .ref (w.1 (mc m 0))), (2, .int (nI (k + 1))), (3, .int (nI (txV x L e0))), (4, .int (σ (15010 + 1)))]) h dX7_carryOut_13 rfl (by decide) rfl ?_
  refine g_iload_n h dX7_carryOut_15 2 rfl ?_
  rcases (show k + 1 = 1 ∨ k + 1 = 2 ∨ k + 1 = 3 ∨ k + 1 = 4 ∨ k + 1 = 5 ∨ k + 1 = 6 ∨ k + 1 = 7 ∨ k + 1 = 8 by omega) with hc16 | hc16 | hc16 | hc16 | hc16 | hc16 | hc16 | hc16
  ·
    refine g_tsw (off := 44) (tgt := 60) h dX7_carryOut_16 (nI 1) (by rw [hc16]) (by decide) (by decide) (by decide +kernel) (by decide) ?_
    have q0 : (if 1 ≤ (txV x L e0) ∧ (txV x L e0) ≤ 8 then (if 8 < nN μ + (txV x L e0) then 6 else 0) else 4) = 0 := AF_k (k' := 0) (by omega) hf0
    have q1 : (1 ≤ (txV x L e0) ∧ (txV x L e0) ≤ 8) ∧ nN μ + (txV x L e0) ≤ 8 := no_in q0
    refine g_iconst h dX7_carryOut_60 (by decide) ?_
    refine g_istore (L' := [(0, .ref (w.1 15)), (1, .ref (w.1 (mc m 0))), (2, .int (nI (k + 1))), (3, .int (nI (txV x L e0))), (4, .int (σ (15010 + 1))), (5, .int (nI 0))]) h dX7_carryOut_61 rfl (by decide) rfl ?_
    have lp63 : ∀ (k9 : Nat) (i : Nat) (μ1 : Nat → Int32) (τ : Mem), (i ≤ (txV x L e0)) → (μ1 = nod9 μ i) → (vw (vb m) τ = μ1) → (NU τ x L e0 (na9 k)) → (∀ a, (a < vb m ∨ vb m + 464 ≤ a) → τ a = σ a) → (txV x L e0) - i < k9 → G X w 6 63 [(0, .ref (w.1 15)), (1, .ref (w.1 (mc m 0))), (2, .int (nI (k + 1))), (3, .int (nI (txV x L e0))), (4, .int (σ (15010 + 1))), (5, .int (nI i))] [] (τ) := by
      intro k9
      induction k9 with
      | zero => intro i μ1 τ hi hμ hvτ hcNU_τ hcFR_τ hm9; exact absurd hm9 (Nat.not_lt_zero _)
      | succ k9 ih63 =>
        intro i μ1 τ hi hμ hvτ hcNU_τ hcFR_τ hm63
        obtain ⟨hm1, hm2⟩ := nod_mi hI i (by omega)
        rw [← hμ] at hm1 hm2
        refine g_iload h dX7_carryOut_63 5 rfl ?_
        refine g_iload_n h dX7_carryOut_65 3 rfl ?_
        refine g_icmpN_ge h dX7_carryOut_66 (by omega) (by omega) (fun c66 => ?_) (fun c66 => ?_)
        ·
          refine g_goto h dX7_carryOut_80 ?_
          exact g_vret h hQ dX7_carryOut_205 rfl (by exact ⟨(by first | (rw [EF_k (k' := 0) (show k = 0 by omega), hvτ, hμ, show i = (txV x L e0) from by omega]; rfl) | (rw [EF_k (k' := 1) (show k = 1 by omega), hvτ, Nat.add_zero]; rfl) | (rw [EF_k (k' := 2) (show k = 2 by omega), hvτ, Nat.add_zero]; rfl) | (rw [EF_k (k' := 3) (show k = 3 by omega), hvτ, Nat.add_zero]; rfl) | (rw [EF_k (k' := 4) (show k = 4 by omega), hvτ, Nat.add_zero]; rfl) | (rw [EF_k (k' := 5) (show k = 5 by omega), hvτ, Nat.add_zero]; rfl) | (rw [EF_k (k' := 6) (show k = 6 by omega), hvτ, Nat.add_zero]; rfl) | (rw [EF_k (k' := 7) (show k = 7 by omega), hvτ, Nat.add_zero, htr]; rfl) | fail), (by exact hcFR_τ)⟩)
        ·
          refine g_aload_n h dX7_carryOut_69 1 rfl ?_
          refine g_iconst h dX7_carryOut_70 (by decide) ?_
          refine g_cvv (rest := []) h (c_addNode hW 3 m μ1 (by first | omega | decide | fail) (by first | exact hvτ | assumption | fail) (by exact hm1) (by omega)) lX5_addNode mX7_158 (Nat.lt_of_lt_of_le (by decide) (Nat.le_refl _)) (by decide) (sM_0 (m := m) (by omega)) rfl rfl rfl rfl dX7_carryOut_71 (fun σ_1 eσ_1 => ?_)
          obtain ⟨eσ_1_a, eσ_1_b⟩ := eσ_1
          have eσ_1_a : vw (vb m) σ_1 = upd (upd (upd μ1 (16 + nN μ1) (nI 3)) 1 (μ1 1 ||| bt1 (nN μ1))) 0 (nI (nN μ1 + 1)) := eσ_1_a
          have eσ_1_b : ∀ a, (a < vb m ∨ vb m + 464 ≤ a) → σ_1 a = (τ) a := eσ_1_b
          have hcNU_σ_1 : NU σ_1 x L e0 (na9 k) := by exact NU.fr hcNU_τ (fun a ha hb => eσ_1_b a (by first | omega | (simp only [vb] at *; omega)))
          have hcFR_σ_1 : ∀ a, (a < vb m ∨ vb m + 464 ≤ a) → σ_1 a = σ a := by intro a ha; exact Eq.trans (b := (τ) a) (eσ_1_b a (by first | omega | (simp only [vb] at *; omega))) (hcFR_τ a ha)
          obtain ⟨μ_2, eμ_2⟩ : ∃ μ_2 : Nat → Int32, μ_2 = upd (upd (upd μ1 (16 + nN μ1) (nI 3)) 1 (μ1 1 ||| bt1 (nN μ1))) 0 (nI (nN μ1 + 1)) := ⟨_, rfl⟩
          have hvσ_1 : vw (vb m) σ_1 = μ_2 := by rw [eμ_2]; exact eσ_1_a
          refine g_iincN (b := 1) (L' := [(0, .ref (w.1 15)), (1, .ref (w.1 (mc m 0))), (2, .int (nI (k + 1))), (3, .int (nI (txV x L e0))), (4, .int (σ (15010 + 1))), (5, .int (nI (i + 1)))]) h dX7_carryOut_74 5 rfl rfl (by decide) (by decide) rfl ?_
          refine g_goto h dX7_carryOut_77 ?_
          exact ih63 (i + 1) μ_2 σ_1 (by omega) (by rw [eμ_2]; rw [show nod9 μ (i + 1) = adn (nod9 μ i) from rfl, ← hμ]; rfl) (by first | exact hvσ_1 | assumption | fail | fail) (by first | exact hcNU_σ_1 | assumption | fail | fail) (by first | exact hcFR_σ_1 | assumption | fail | fail) (by omega)
    exact lp63 (_) 0 μ σ (by omega) (by rfl) (by first | exact hv | assumption | fail | fail) (by first | exact hcNU_σ | assumption | fail | fail) (by first | exact hcFR_σ | assumption | fail | fail) (Nat.lt_succ_self _)
  ·
    refine g_tsw (off := 67) (tgt := 83) h dX7_carryOut_16 (nI 2) (by rw [hc16]) (by decide) (by decide) (by decide +kernel) (by decide) ?_
    have hr1 : σ (15010 + 1) = nI (txV x L (txE x L e0)) := hcNU_σ 1 (by omega)
    rw [hr1]
    have q0 := nfa_0 (show nfa μ (txV x L e0) = 0 from AF_k (k' := 1) (by omega) hf0)
    have q1 := rfa_0 (show rfa (txV x L (txE x L e0)) 0 7 = 0 from AF_k (k' := 1) (by omega) (hf1 (by omega)))
    show G X w 6 83 [(0, .ref (w.1 15)), (1, .ref (w.1 (mc m 0))), (2, .int (nI (k + 1))), (3, .int (nI (txV x L e0))), (4, .int (nI (txV x L (txE x L e0))))] [] σ
    refine g_aload_n h dX7_carryOut_83 1 rfl ?_
    refine g_getr h dX7_carryOut_84 gX7_161 (sM_0 (m := m) (by omega)) rfl ?_
    refine g_iload_n h dX7_carryOut_87 3 rfl ?_
    refine g_iload h dX7_carryOut_88 4 rfl ?_
    refine g_iast h dX7_carryOut_90 (sM_1 (m := m) (by omega)) (by omega) ?_
    refine g_nm (fun σ_3 eσ_3 => ?_)
    have eσ_3 : σ_3 = upd σ ((vb m) + (16 + (txV x L e0))) (nI (txV x L (txE x L e0))) := eσ_3
    have hcNU_σ_3 : NU σ_3 x L e0 (na9 k) := by rw [eσ_3]; exact NU.fr hcNU_σ (fun a ha hb => upd_ne (by first | omega | (simp only [vb] at *; omega)))
    have hcFR_σ_3 : ∀ a, (a < vb m ∨ vb m + 464 ≤ a) → σ_3 a = σ a := by intro a ha; exact Eq.trans (b := σ a) (by rw [eσ_3, upd_ne (by first | omega | (simp only [vb] at *; omega))]) (hcFR_σ a ha)
    obtain ⟨μ_4, eμ_4⟩ : ∃ μ_4 : Nat → Int32, μ_4 = upd μ (16 + (txV x L e0)) (nI (txV x L (txE x L e0))) := ⟨_, rfl⟩
    have hvσ_3 : vw (vb m) σ_3 = μ_4 := by rw [eσ_3, eμ_4, vw_in (by first | omega | (rw [htr]; omega))]; congr 1
    refine g_goto h dX7_carryOut_91 ?_
    exact g_vret h hQ dX7_carryOut_205 rfl (by exact ⟨(by first | (rw [EF_k (k' := 0) (show k = 0 by omega), hvσ_3, hμ, show i = (txV x L e0) from by omega]; rfl) | (rw [EF_k (k' := 1) (show k = 1 by omega), hvσ_3, eμ_4]; rfl) | (rw [EF_k (k' := 2) (show k = 2 by omega), hvσ_3, eμ_4]; rfl) | (rw [EF_k (k' := 3) (show k = 3 by omega), hvσ_3, eμ_4]; rfl) | (rw [EF_k (k' := 4) (show k = 4 by omega), hvσ_3, eμ_4]; rfl) | (rw [EF_k (k' := 5) (show k = 5 by omega), hvσ_3, eμ_4]; rfl) | (rw [EF_k (k' := 6) (show k = 6 by omega), hvσ_3, eμ_4]; rfl) | (rw [EF_k (k' := 7) (show k = 7 by omega), hvσ_3, eμ_4, htr]; rfl) | fail), (by exact hcFR_σ_3)⟩)
  ·
    refine g_tsw (off := 78) (tgt := 94) h dX7_carryOut_16 (nI 3) (by rw [hc16]) (by decide) (by decide) (by decide +kernel) (by decide) ?_
    have hr1 : σ (15010 + 1) = nI (txV x L (txE x L e0)) := hcNU_σ 1 (by omega)
    rw [hr1]
    have q0 := nfa_0 (show nfa μ (txV x L e0) = 0 from AF_k (k' := 2) (by omega) hf0)
    have q1 := AF_two1 (by omega) (hf1 (by omega))
    show G X w 6 94 [(0, .ref (w.1 15)), (1, .ref (w.1 (mc m 0))), (2, .int (nI (k + 1))), (3, .int (nI (txV x L e0))), (4, .int (nI (txV x L (txE x L e0))))] [] σ
    refine g_aload_n h dX7_carryOut_94 1 rfl ?_
    refine g_getr h dX7_carryOut_95 gX7_164 (sM_0 (m := m) (by omega)) rfl ?_
    refine g_iload_n h dX7_carryOut_98 3 rfl ?_
    refine g_aload_n h dX7_carryOut_99 1 rfl ?_
    refine g_getr h dX7_carryOut_100 gX7_164 (sM_0 (m := m) (by omega)) rfl ?_
    refine g_iload_n h dX7_carryOut_103 3 rfl ?_
    refine g_iald h dX7_carryOut_104 (sM_2 (m := m) (by omega)) (by omega) ?_
    refine g_top (y := μ (24 + (txV x L e0))) (vw_pic (b := (vb m)) (k := 24 + (txV x L e0)) (by first | exact hv | assumption) (by omega)) ?_
    refine g_iload h dX7_carryOut_105 4 rfl ?_
    refine g_iconst h dX7_carryOut_107 (by decide) ?_
    refine g_cspi (rest := [.int (nI (txV x L e0)), .ref (w.1 (mc m 2))]) h (c_with hW (μ (24 + (txV x L e0))) (txV x L (txE x L e0)) true ) lX5_with mX7_74 (Nat.lt_of_lt_of_le (by decide) (Nat.le_refl _)) (by decide) rfl rfl rfl dX7_carryOut_108 ?_
    refine g_iast h dX7_carryOut_111 (sM_2 (m := m) (by omega)) (by omega) ?_
    refine g_nm (fun σ_5 eσ_5 => ?_)
    have eσ_5 : σ_5 = upd σ ((vb m) + (24 + (txV x L e0))) (wth (μ (24 + (txV x L e0))) (txV x L (txE x L e0)) true) := eσ_5
    have hcNU_σ_5 : NU σ_5 x L e0 (na9 k) := by rw [eσ_5]; exact NU.fr hcNU_σ (fun a ha hb => upd_ne (by first | omega | (simp only [vb] at *; omega)))
    have hcFR_σ_5 : ∀ a, (a < vb m ∨ vb m + 464 ≤ a) → σ_5 a = σ a := by intro a ha; exact Eq.trans (b := σ a) (by rw [eσ_5, upd_ne (by first | omega | (simp only [vb] at *; omega))]) (hcFR_σ a ha)
    obtain ⟨μa, eμa⟩ : ∃ μa : Nat → Int32, μa = upd μ (24 + (txV x L e0)) (wth (μ (24 + (txV x L e0))) (txV x L (txE x L e0)) true) := ⟨_, rfl⟩
    have hvσ_5 : vw (vb m) σ_5 = μa := by rw [eσ_5, eμa, vw_in (by first | omega | (rw [htr]; omega))]; congr 1
    refine g_aload_n h dX7_carryOut_112 1 rfl ?_
    refine g_getr h dX7_carryOut_113 gX7_164 (sM_0 (m := m) (by omega)) rfl ?_
    refine g_iload h dX7_carryOut_116 4 rfl ?_
    refine g_aload_n h dX7_carryOut_118 1 rfl ?_
    refine g_getr h dX7_carryOut_119 gX7_164 (sM_0 (m := m) (by omega)) rfl ?_
    refine g_iload h dX7_carryOut_122 4 rfl ?_
    refine g_iald h dX7_carryOut_124 (sM_2 (m := m) (by omega)) (by omega) ?_
    refine g_top (y := μa (24 + (txV x L (txE x L e0)))) (vw_pic (b := (vb m)) (k := 24 + (txV x L (txE x L e0))) (by first | exact hvσ_5 | assumption) (by omega)) ?_
    refine g_top (y := (μ (24 + (txV x L (txE x L e0))))) (by rw [eμa, upd_ne (by omega)]) ?_
    refine g_iload_n h dX7_carryOut_125 3 rfl ?_
    refine g_iconst h dX7_carryOut_126 (by decide) ?_
    refine g_cspi (rest := [.int (nI (txV x L (txE x L e0))), .ref (w.1 (mc m 2))]) h (c_with hW (μ (24 + (txV x L (txE x L e0)))) (txV x L e0) true ) lX5_with mX7_74 (Nat.lt_of_lt_of_le (by decide) (Nat.le_refl _)) (by decide) rfl rfl rfl dX7_carryOut_127 ?_
    refine g_iast h dX7_carryOut_130 (sM_2 (m := m) (by omega)) (by omega) ?_
    refine g_nm (fun σ_6 eσ_6 => ?_)
    have eσ_6 : σ_6 = upd σ_5 ((vb m) + (24 + (txV x L (txE x L e0)))) (wth (μ (24 + (txV x L (txE x L e0)))) (txV x L e0) true) := eσ_6
    have hcNU_σ_6 : NU σ_6 x L e0 (na9 k) := by rw [eσ_6]; exact NU.fr hcNU_σ_5 (fun a ha hb => upd_ne (by first | omega | (simp only [vb] at *; omega)))
    have hcFR_σ_6 : ∀ a, (a < vb m ∨ vb m + 464 ≤ a) → σ_6 a = σ a := by intro a ha; exact Eq.trans (b := σ_5 a) (by rw [eσ_6, upd_ne (by first | omega | (simp only [vb] at *; omega))]) (hcFR_σ_5 a ha)
    obtain ⟨μb, eμb⟩ : ∃ μb : Nat → Int32, μb = upd μa (24 + (txV x L (txE x L e0))) (wth (μ (24 + (txV x L (txE x L e0)))) (txV x L e0) true) := ⟨_, rfl⟩
    have hvσ_6 : vw (vb m) σ_6 = μb := by rw [eσ_6, eμb, vw_in (by first | omega | (rw [htr]; omega))]; congr 1
    refine g_goto h dX7_carryOut_131 ?_
    exact g_vret h hQ dX7_carryOut_205 rfl (by exact ⟨(by first | (rw [EF_k (k' := 0) (show k = 0 by omega), hvσ_6, hμ, show i = (txV x L e0) from by omega]; rfl) | (rw [EF_k (k' := 1) (show k = 1 by omega), hvσ_6, eμb, eμa]; rfl) | (rw [EF_k (k' := 2) (show k = 2 by omega), hvσ_6, eμb, eμa]; rfl) | (rw [EF_k (k' := 3) (show k = 3 by omega), hvσ_6, eμb, eμa]; rfl) | (rw [EF_k (k' := 4) (show k = 4 by omega), hvσ_6, eμb, eμa]; rfl) | (rw [EF_k (k' := 5) (show k = 5 by omega), hvσ_6, eμb, eμa]; rfl) | (rw [EF_k (k' := 6) (show k = 6 by omega), hvσ_6, eμb, eμa]; rfl) | (rw [EF_k (k' := 7) (show k = 7 by omega), hvσ_6, eμb, eμa, htr]; rfl) | fail), (by exact hcFR_σ_6)⟩)
  ·
    refine g_tsw (off := 118) (tgt := 134) h dX7_carryOut_16 (nI 4) (by rw [hc16]) (by decide) (by decide) (by decide +kernel) (by decide) ?_
    have hr1 : σ (15010 + 1) = nI (txV x L (txE x L e0)) := hcNU_σ 1 (by omega)
    rw [hr1]
    have q0 := nfa_0 (show nfa μ (txV x L e0) = 0 from AF_k (k' := 3) (by omega) hf0)
    have q1 := AF_two1 (by omega) (hf1 (by omega))
    show G X w 6 134 [(0, .ref (w.1 15)), (1, .ref (w.1 (mc m 0))), (2, .int (nI (k + 1))), (3, .int (nI (txV x L e0))), (4, .int (nI (txV x L (txE x L e0))))] [] σ
    refine g_aload_n h dX7_carryOut_134 1 rfl ?_
    refine g_getr h dX7_carryOut_135 gX7_164 (sM_0 (m := m) (by omega)) rfl ?_
    refine g_iload h dX7_carryOut_138 4 rfl ?_
    refine g_aload_n h dX7_carryOut_140 1 rfl ?_
    refine g_getr h dX7_carryOut_141 gX7_164 (sM_0 (m := m) (by omega)) rfl ?_
    refine g_iload h dX7_carryOut_144 4 rfl ?_
    refine g_iald h dX7_carryOut_146 (sM_2 (m := m) (by omega)) (by omega) ?_
    refine g_top (y := μ (24 + (txV x L (txE x L e0)))) (vw_pic (b := (vb m)) (k := 24 + (txV x L (txE x L e0))) (by first | exact hv | assumption) (by omega)) ?_
    refine g_iload_n h dX7_carryOut_147 3 rfl ?_
    refine g_iconst h dX7_carryOut_148 (by decide) ?_
    refine g_cspi (rest := [.int (nI (txV x L (txE x L e0))), .ref (w.1 (mc m 2))]) h (c_with hW (μ (24 + (txV x L (txE x L e0)))) (txV x L e0) true ) lX5_with mX7_74 (Nat.lt_of_lt_of_le (by decide) (Nat.le_refl _)) (by decide) rfl rfl rfl dX7_carryOut_149 ?_
    refine g_iast h dX7_carryOut_152 (sM_2 (m := m) (by omega)) (by omega) ?_
    refine g_nm (fun σ_7 eσ_7 => ?_)
    have eσ_7 : σ_7 = upd σ ((vb m) + (24 + (txV x L (txE x L e0)))) (wth (μ (24 + (txV x L (txE x L e0)))) (txV x L e0) true) := eσ_7
    have hcNU_σ_7 : NU σ_7 x L e0 (na9 k) := by rw [eσ_7]; exact NU.fr hcNU_σ (fun a ha hb => upd_ne (by first | omega | (simp only [vb] at *; omega)))
    have hcFR_σ_7 : ∀ a, (a < vb m ∨ vb m + 464 ≤ a) → σ_7 a = σ a := by intro a ha; exact Eq.trans (b := σ a) (by rw [eσ_7, upd_ne (by first | omega | (simp only [vb] at *; omega))]) (hcFR_σ a ha)
    obtain ⟨μ_8, eμ_8⟩ : ∃ μ_8 : Nat → Int32, μ_8 = upd μ (24 + (txV x L (txE x L e0))) (wth (μ (24 + (txV x L (txE x L e0)))) (txV x L e0) true) := ⟨_, rfl⟩
    have hvσ_7 : vw (vb m) σ_7 = μ_8 := by rw [eσ_7, eμ_8, vw_in (by first | omega | (rw [htr]; omega))]; congr 1
    refine g_goto h dX7_carryOut_153 ?_
    exact g_vret h hQ dX7_carryOut_205 rfl (by exact ⟨(by first | (rw [EF_k (k' := 0) (show k = 0 by omega), hvσ_7, hμ, show i = (txV x L e0) from by omega]; rfl) | (rw [EF_k (k' := 1) (show k = 1 by omega), hvσ_7, eμ_8]; rfl) | (rw [EF_k (k' := 2) (show k = 2 by omega), hvσ_7, eμ_8]; rfl) | (rw [EF_k (k' := 3) (show k = 3 by omega), hvσ_7, eμ_8]; rfl) | (rw [EF_k (k' := 4) (show k = 4 by omega), hvσ_7, eμ_8]; rfl) | (rw [EF_k (k' := 5) (show k = 5 by omega), hvσ_7, eμ_8]; rfl) | (rw [EF_k (k' := 6) (show k = 6 by omega), hvσ_7, eμ_8]; rfl) | (rw [EF_k (k' := 7) (show k = 7 by omega), hvσ_7, eμ_8, htr]; rfl) | fail), (by exact hcFR_σ_7)⟩)
  ·
    refine g_tsw (off := 140) (tgt := 156) h dX7_carryOut_16 (nI 5) (by rw [hc16]) (by decide) (by decide) (by decide +kernel) (by decide) ?_
    have q0 := of_in (AF_k (k' := 4) (by omega) hf0)
    refine g_aload_n h dX7_carryOut_156 1 rfl ?_
    refine g_aload_n h dX7_carryOut_157 1 rfl ?_
    refine g_geti h dX7_carryOut_158 gX7_167 (sM_0 (m := m) (by omega)) rfl ?_
    refine g_top (y := μ 1) (vw_pic (b := (vb m)) (k := 1) (by first | exact hv | assumption) (by omega)) ?_
    refine g_iload_n h dX7_carryOut_161 3 rfl ?_
    refine g_iconst h dX7_carryOut_162 (by decide) ?_
    refine g_cspi (rest := [.ref (w.1 (mc m 0))]) h (c_with hW (μ 1) (txV x L e0) false ) lX5_with mX7_74 (Nat.lt_of_lt_of_le (by decide) (Nat.le_refl _)) (by decide) rfl rfl rfl dX7_carryOut_163 ?_
    refine g_puti h dX7_carryOut_166 pX7_167 (sM_0 (m := m) (by omega)) rfl ?_
    refine g_nm (fun σ_9 eσ_9 => ?_)
    have eσ_9 : σ_9 = upd σ ((vb m) + 1) (wth (μ 1) (txV x L e0) false) := eσ_9
    have hcNU_σ_9 : NU σ_9 x L e0 (na9 k) := by rw [eσ_9]; exact NU.fr hcNU_σ (fun a ha hb => upd_ne (by first | omega | (simp only [vb] at *; omega)))
    have hcFR_σ_9 : ∀ a, (a < vb m ∨ vb m + 464 ≤ a) → σ_9 a = σ a := by intro a ha; exact Eq.trans (b := σ a) (by rw [eσ_9, upd_ne (by first | omega | (simp only [vb] at *; omega))]) (hcFR_σ a ha)
    obtain ⟨μ_10, eμ_10⟩ : ∃ μ_10 : Nat → Int32, μ_10 = upd μ 1 (wth (μ 1) (txV x L e0) false) := ⟨_, rfl⟩
    have hvσ_9 : vw (vb m) σ_9 = μ_10 := by rw [eσ_9, eμ_10, vw_in (by first | omega | (rw [htr]; omega))]; congr 1
    refine g_goto h dX7_carryOut_169 ?_
    exact g_vret h hQ dX7_carryOut_205 rfl (by exact ⟨(by first | (rw [EF_k (k' := 0) (show k = 0 by omega), hvσ_9, hμ, show i = (txV x L e0) from by omega]; rfl) | (rw [EF_k (k' := 1) (show k = 1 by omega), hvσ_9, eμ_10]; rfl) | (rw [EF_k (k' := 2) (show k = 2 by omega), hvσ_9, eμ_10]; rfl) | (rw [EF_k (k' := 3) (show k = 3 by omega), hvσ_9, eμ_10]; rfl) | (rw [EF_k (k' := 4) (show k = 4 by omega), hvσ_9, eμ_10]; rfl) | (rw [EF_k (k' := 5) (show k = 5 by omega), hvσ_9, eμ_10]; rfl) | (rw [EF_k (k' := 6) (show k = 6 by omega), hvσ_9, eμ_10]; rfl) | (rw [EF_k (k' := 7) (show k = 7 by omega), hvσ_9, eμ_10, htr]; rfl) | fail), (by exact hcFR_σ_9)⟩)
  ·
    refine g_tsw (off := 156) (tgt := 172) h dX7_carryOut_16 (nI 6) (by rw [hc16]) (by decide) (by decide) (by decide +kernel) (by decide) ?_
    refine g_aload_n h dX7_carryOut_172 1 rfl ?_
    refine g_iload_n h dX7_carryOut_173 3 rfl ?_
    refine g_puti h dX7_carryOut_174 pX7_170 (sM_0 (m := m) (by omega)) rfl ?_
    refine g_nm (fun σ_11 eσ_11 => ?_)
    have eσ_11 : σ_11 = upd σ ((vb m) + 3) (nI (txV x L e0)) := eσ_11
    have hcNU_σ_11 : NU σ_11 x L e0 (na9 k) := by rw [eσ_11]; exact NU.fr hcNU_σ (fun a ha hb => upd_ne (by first | omega | (simp only [vb] at *; omega)))
    have hcFR_σ_11 : ∀ a, (a < vb m ∨ vb m + 464 ≤ a) → σ_11 a = σ a := by intro a ha; exact Eq.trans (b := σ a) (by rw [eσ_11, upd_ne (by first | omega | (simp only [vb] at *; omega))]) (hcFR_σ a ha)
    obtain ⟨μ_12, eμ_12⟩ : ∃ μ_12 : Nat → Int32, μ_12 = upd μ 3 (nI (txV x L e0)) := ⟨_, rfl⟩
    have hvσ_11 : vw (vb m) σ_11 = μ_12 := by rw [eσ_11, eμ_12, vw_in (by first | omega | (rw [htr]; omega))]; congr 1
    refine g_goto h dX7_carryOut_177 ?_
    exact g_vret h hQ dX7_carryOut_205 rfl (by exact ⟨(by first | (rw [EF_k (k' := 0) (show k = 0 by omega), hvσ_11, hμ, show i = (txV x L e0) from by omega]; rfl) | (rw [EF_k (k' := 1) (show k = 1 by omega), hvσ_11, eμ_12]; rfl) | (rw [EF_k (k' := 2) (show k = 2 by omega), hvσ_11, eμ_12]; rfl) | (rw [EF_k (k' := 3) (show k = 3 by omega), hvσ_11, eμ_12]; rfl) | (rw [EF_k (k' := 4) (show k = 4 by omega), hvσ_11, eμ_12]; rfl) | (rw [EF_k (k' := 5) (show k = 5 by omega), hvσ_11, eμ_12]; rfl) | (rw [EF_k (k' := 6) (show k = 6 by omega), hvσ_11, eμ_12]; rfl) | (rw [EF_k (k' := 7) (show k = 7 by omega), hvσ_11, eμ_12, htr]; rfl) | fail), (by exact hcFR_σ_11)⟩)
  ·
    refine g_tsw (off := 164) (tgt := 180) h dX7_carryOut_16 (nI 7) (by rw [hc16]) (by decide) (by decide) (by decide +kernel) (by decide) ?_
    refine g_aload_n h dX7_carryOut_180 1 rfl ?_
    refine g_iload_n h dX7_carryOut_181 3 rfl ?_
    refine g_puti h dX7_carryOut_182 pX7_172 (sM_0 (m := m) (by omega)) rfl ?_
    refine g_nm (fun σ_13 eσ_13 => ?_)
    have eσ_13 : σ_13 = upd σ ((vb m) + 4) (nI (txV x L e0)) := eσ_13
    have hcNU_σ_13 : NU σ_13 x L e0 (na9 k) := by rw [eσ_13]; exact NU.fr hcNU_σ (fun a ha hb => upd_ne (by first | omega | (simp only [vb] at *; omega)))
    have hcFR_σ_13 : ∀ a, (a < vb m ∨ vb m + 464 ≤ a) → σ_13 a = σ a := by intro a ha; exact Eq.trans (b := σ a) (by rw [eσ_13, upd_ne (by first | omega | (simp only [vb] at *; omega))]) (hcFR_σ a ha)
    obtain ⟨μ_14, eμ_14⟩ : ∃ μ_14 : Nat → Int32, μ_14 = upd μ 4 (nI (txV x L e0)) := ⟨_, rfl⟩
    have hvσ_13 : vw (vb m) σ_13 = μ_14 := by rw [eσ_13, eμ_14, vw_in (by first | omega | (rw [htr]; omega))]; congr 1
    refine g_goto h dX7_carryOut_185 ?_
    exact g_vret h hQ dX7_carryOut_205 rfl (by exact ⟨(by first | (rw [EF_k (k' := 0) (show k = 0 by omega), hvσ_13, hμ, show i = (txV x L e0) from by omega]; rfl) | (rw [EF_k (k' := 1) (show k = 1 by omega), hvσ_13, eμ_14]; rfl) | (rw [EF_k (k' := 2) (show k = 2 by omega), hvσ_13, eμ_14]; rfl) | (rw [EF_k (k' := 3) (show k = 3 by omega), hvσ_13, eμ_14]; rfl) | (rw [EF_k (k' := 4) (show k = 4 by omega), hvσ_13, eμ_14]; rfl) | (rw [EF_k (k' := 5) (show k = 5 by omega), hvσ_13, eμ_14]; rfl) | (rw [EF_k (k' := 6) (show k = 6 by omega), hvσ_13, eμ_14]; rfl) | (rw [EF_k (k' := 7) (show k = 7 by omega), hvσ_13, eμ_14, htr]; rfl) | fail), (by exact hcFR_σ_13)⟩)
  ·
    refine g_tswOut (tgt := 188) h dX7_carryOut_16 (by rw [hc16]; decide) (by decide) ?_
    have hr1 : σ (15010 + 1) = nI (txV x L (txE x L e0)) := hcNU_σ 1 (by omega)
    rw [hr1]
    have q0 := nfa_0 (show nfa μ (txV x L e0) = 0 from AF_k (k' := 7) (by omega) hf0)
    have q1 := AF_two1 (by omega) (hf1 (by omega))
    have htr := tr_at (a := (txV x L (txE x L e0))) (b := (txV x L e0)) (by omega) (by omega)
    show G X w 6 188 [(0, .ref (w.1 15)), (1, .ref (w.1 (mc m 0))), (2, .int (nI (k + 1))), (3, .int (nI (txV x L e0))), (4, .int (nI (txV x L (txE x L e0))))] [] σ
    refine g_aload_n h dX7_carryOut_188 1 rfl ?_
    refine g_getr h dX7_carryOut_189 gX7_174 (sM_0 (m := m) (by omega)) rfl ?_
    refine g_iload h dX7_carryOut_192 4 rfl ?_
    refine g_iload_n h dX7_carryOut_194 3 rfl ?_
    refine g_cspi (rest := [.ref (w.1 (mc m 3))]) h (c_at hW (txV x L (txE x L e0)) (txV x L e0) ) lX5_at mX7_177 (Nat.lt_of_lt_of_le (by decide) (Nat.le_refl _)) (by decide) rfl rfl rfl dX7_carryOut_195 ?_
    refine g_aload_n h dX7_carryOut_198 0 rfl ?_
    refine g_getr h dX7_carryOut_199 gX7_15 sc_15 rfl ?_
    refine g_iconst h dX7_carryOut_202 (by decide) ?_
    refine g_iald h dX7_carryOut_203 sc_17 (by omega) ?_
    refine g_top (y := (nI (txV x L (txE x L (txE x L e0))))) (hcNU_σ 2 (by omega)) ?_
    refine g_iast h dX7_carryOut_204 (sM_3 (m := m) (by omega)) (by omega) ?_
    refine g_nm (fun σ_15 eσ_15 => ?_)
    have eσ_15 : σ_15 = upd σ ((vb m) + (208 + tr (8 * (txV x L (txE x L e0)) + (txV x L e0)))) (nI (txV x L (txE x L (txE x L e0)))) := eσ_15
    have hcNU_σ_15 : NU σ_15 x L e0 (na9 k) := by rw [eσ_15]; exact NU.fr hcNU_σ (fun a ha hb => upd_ne (by first | omega | (simp only [vb] at *; omega)))
    have hcFR_σ_15 : ∀ a, (a < vb m ∨ vb m + 464 ≤ a) → σ_15 a = σ a := by intro a ha; exact Eq.trans (b := σ a) (by rw [eσ_15, upd_ne (by first | omega | (simp only [vb] at *; omega))]) (hcFR_σ a ha)
    obtain ⟨μ_16, eμ_16⟩ : ∃ μ_16 : Nat → Int32, μ_16 = upd μ (208 + tr (8 * (txV x L (txE x L e0)) + (txV x L e0))) (nI (txV x L (txE x L (txE x L e0)))) := ⟨_, rfl⟩
    have hvσ_15 : vw (vb m) σ_15 = μ_16 := by rw [eσ_15, eμ_16, vw_in (by first | omega | (rw [htr]; omega))]; congr 1
    exact g_vret h hQ dX7_carryOut_205 rfl (by exact ⟨(by first | (rw [EF_k (k' := 0) (show k = 0 by omega), hvσ_15, hμ, show i = (txV x L e0) from by omega]; rfl) | (rw [EF_k (k' := 1) (show k = 1 by omega), hvσ_15, eμ_16]; rfl) | (rw [EF_k (k' := 2) (show k = 2 by omega), hvσ_15, eμ_16]; rfl) | (rw [EF_k (k' := 3) (show k = 3 by omega), hvσ_15, eμ_16]; rfl) | (rw [EF_k (k' := 4) (show k = 4 by omega), hvσ_15, eμ_16]; rfl) | (rw [EF_k (k' := 5) (show k = 5 by omega), hvσ_15, eμ_16]; rfl) | (rw [EF_k (k' := 6) (show k = 6 by omega), hvσ_15, eμ_16]; rfl) | (rw [EF_k (k' := 7) (show k = 7 by omega), hvσ_15, eμ_16, htr]; rfl) | fail), (by exact hcFR_σ_15)⟩)
