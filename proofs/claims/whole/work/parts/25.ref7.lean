/-! the reference's routes -/
def RR (σ : Mem) (R : RT) : Prop := ∀ y, y < 8 → σ (5150 + y) = nI (rs R y) ∧ σ (5160 + y) = rn R y
theorem RR.fr {R : RT} {σ σ' : Mem} (h : RR σ R) (f : ∀ a, 5150 ≤ a → a < 5168 → σ' a = σ a) : RR σ' R := fun y hy => by
  rw [f _ (by omega) (by omega), f _ (by omega) (by omega)]
  exact h y hy
theorem RR.set {R : RT} {σ σ1 σ2 : Mem} {y s t : Nat} (h : RR σ R) (hy : y < 8) (e1 : σ1 = upd σ (5150 + y) (nI s)) (e2 : σ2 = upd σ1 (5160 + y) (nI t)) : RR σ2 (rset R y (s, t)) := fun q hq => by
  rw [rs_set, rn_set]
  by_cases e : q = y
  · subst e
    rw [if_pos rfl, if_pos rfl]
    constructor
    · rw [e2, upd_ne (by omega), e1, upd_eq]
    · rw [e2, upd_eq]
  · rw [if_neg e, if_neg e]
    constructor
    · rw [e2, upd_ne (by omega), e1, upd_ne (by omega)]
      exact (h q hq).1
    · rw [e2, upd_ne (by omega), e1, upd_ne (by omega)]
      exact (h q hq).2
theorem RR.min {R : RT} {σ σ2 : Mem} {y s t : Nat} (h : RR σ R) (hy : y < 8) (hs : rs R y = s) (e2 : σ2 = upd σ (5160 + y) (nI t)) : RR σ2 (rset R y (s, t)) := fun q hq => by
  rw [rs_set, rn_set]
  by_cases e : q = y
  · subst e
    rw [if_pos rfl, if_pos rfl]
    constructor
    · rw [e2, upd_ne (by omega), ← hs]
      exact (h q hq).1
    · rw [e2, upd_eq]
  · rw [if_neg e, if_neg e]
    constructor
    · rw [e2, upd_ne (by omega)]
      exact (h q hq).1
    · rw [e2, upd_ne (by omega)]
      exact (h q hq).2
theorem mn_key {a b : Nat} (ha : a < 1000) (hb : b < 1000) : (if nI b < nI a then nI b else nI a) = nI (min a b) := by
  by_cases c : b < a
  · rw [if_pos ((nI_ltq (by omega) (by omega)).mpr c), show min a b = b from by omega]
  · rw [if_neg (fun q => c ((nI_ltq (by omega) (by omega)).mp q)), show min a b = a from by omega]
/-- what the reference's first loop has laid -/
def RZ (μ : Nat → Int32) (i k : Nat) (σ : Mem) : Prop := ∀ y, y < k → σ (5150 + y) = nI (rs (r0 μ i) y) ∧ σ (5160 + y) = rn (r0 μ i) y
theorem RZ.more {μ : Nat → Int32} {i k : Nat} {σ σ1 σ2 : Mem} {a b : Int32} (h : RZ μ i k σ) (hk : k < 8) (e1 : σ1 = upd σ (5150 + k) a) (e2 : σ2 = upd σ1 (5160 + k) b) (ha : a = nI (rs (r0 μ i) k)) (hb : b = rn (r0 μ i) k) : RZ μ i (k + 1) σ2 := fun y hy => by
  by_cases e : y = k
  · subst e
    constructor
    · rw [e2, upd_ne (by omega), e1, upd_eq, ha]
    · rw [e2, upd_eq, hb]
  · constructor
    · rw [e2, upd_ne (by omega), e1, upd_ne (by omega)]
      exact (h y (by omega)).1
    · rw [e2, upd_ne (by omega), e1, upd_ne (by omega)]
      exact (h y (by omega)).2
theorem r0_t {μ : Nat → Int32} {i k : Nat} (h : tb (μ (64 + i)) k = true) : nI 1 = nI (rs (r0 μ i) k) ∧ nI k = rn (r0 μ i) k := by
  unfold rs rn r0
  rw [if_pos h]
  exact ⟨rfl, rfl⟩
theorem r0_f {μ : Nat → Int32} {i k : Nat} (h : tb (μ (64 + i)) k = false) : nI 0 = nI (rs (r0 μ i) k) ∧ (-1 : Int32) = rn (r0 μ i) k := by
  unfold rs rn r0
  rw [if_neg (by rw [h]; decide)]
  exact ⟨rfl, rfl⟩
/-- routes have few steps and go by nodes that there are -/
def Rb (R : RT) : Prop := ∀ y, rs R y < 20 ∧ rx R y < 20
theorem Rb.set {R : RT} {y s t : Nat} (h : Rb R) (hs : s < 20) (ht : t < 20) : Rb (rset R y (s, t)) := fun q => by
  rw [rs_set, rx_set]
  split
  · exact ⟨hs, ht⟩
  · exact h q
theorem r0_rb {μ : Nat → Int32} {i : Nat} (hI : MI μ) (hi : i < 8) : Rb (r0 μ i) := fun y => by
  have h8 := mi_8 hI
  unfold rs rx r0
  by_cases c : tb (μ (64 + i)) y = true
  · have := near_lt hI hi c
    rw [if_pos c]
    exact ⟨show 1 < 20 by decide, show y < 20 by omega⟩
  · rw [if_neg c]
    exact ⟨by decide, by decide⟩
theorem kY_rb {μ : Nat → Int32} {i j : Nat} {R : RT} (hj : j < 20) (h : Rb R) : ∀ n, Rb (kY μ i j R n)
  | 0 => h
  | n + 1 => by
    have ih := kY_rb (μ := μ) (i := i) hj h n
    show Rb (k1 μ i j n (kY μ i j R n))
    unfold k1
    split
    · exact ih.set (by decide) hj
    · exact ih
theorem kJ_rb {μ : Nat → Int32} {i : Nat} (hI : MI μ) (hi : i < 8) : ∀ n, n ≤ 20 → Rb (kJ μ i n)
  | 0, _ => r0_rb hI hi
  | n + 1, hn => kY_rb (by omega) (kJ_rb hI hi n (by omega)) _
theorem hY_rb {μ : Nat → Int32} {i x r : Nat} {R : RT} (hr : r < 19) (h : Rb R) : ∀ n, Rb (hY μ i x r R n)
  | 0 => h
  | n + 1 => by
    have ih := hY_rb (μ := μ) (i := i) (x := x) hr h n
    show Rb (h1 μ i x r n (hY μ i x r R n))
    unfold h1
    have i1 := ih x
    have i2 := ih n
    split
    · split
      · exact ih.set (by omega) i1.2
      · split
        · exact ih.set (by omega) (by omega)
        · exact ih
    · exact ih
theorem hX_rb {μ : Nat → Int32} {i r : Nat} {here : Int32} {R : RT} (hr : r < 19) (h : Rb R) : ∀ n, Rb (hX μ i r here R n)
  | 0 => h
  | n + 1 => by
    have ih := hX_rb (μ := μ) (i := i) (here := here) hr h n
    simp only [hX]
    split
    · exact hY_rb hr ih _
    · exact ih
theorem rgF_rb {μ : Nat → Int32} {i : Nat} (hI : MI μ) (hi : i < 8) : ∀ r, r < 18 → Rb (rgF μ i r)
  | 0, _ => kJ_rb hI hi _ (by have := mi_8 hI; omega)
  | r + 1, hr => hX_rb (by omega) (rgF_rb hI hi r (by omega)) _

set_option maxRecDepth 100000 in
set_option maxHeartbeats 4000000 in
theorem j_min {l : Launch} {w : Wd} (hW : Wi w) {σ : Mem} (a b : Nat) (ha : a < 1000) (hb : b < 1000) : MC l w qJ9_min_7cf53 0 [.int (nI a), .int (nI b)] σ (some (.int (nI (min a b)))) (fun σ' => σ' = σ) := by
  refine MC.ofF hW (by decide +kernel) (Nat.le_of_ble_eq_true rfl) (fun X h hQ hnm => ?_)
  have h : Fx X w cJ9_min_7cf53 2 RJ9 0 := h
  have hQ : Qx X w (some .int) (some (.int (nI (min a b)))) (fun σ' => σ' = σ) := hQ
  show G X w 2 0 [(0, .int (nI a)), (1, .int (nI b))] [] σ
  refine g_iload_n h dJ9_min_7cf53_0 0 rfl ?_
  refine g_iload_n h dJ9_min_7cf53_1 1 rfl ?_
  refine g_icmpN_gt h dJ9_min_7cf53_2 (by omega) (by omega) (fun c2 => ?_) (fun c2 => ?_)
  ·
    refine g_iload_n h dJ9_min_7cf53_9 1 rfl ?_
    exact g_iret h hQ dJ9_min_7cf53_10 (congrArg (fun z => some (Value.int z)) (show (nI (min a b)) = (nI b) by congr 1; omega)) rfl
  ·
    refine g_iload_n h dJ9_min_7cf53_5 0 rfl ?_
    refine g_goto h dJ9_min_7cf53_6 ?_
    exact g_iret h hQ dJ9_min_7cf53_10 (congrArg (fun z => some (Value.int z)) (show (nI (min a b)) = (nI a) by congr 1; omega)) rfl

set_option maxRecDepth 100000 in
set_option maxHeartbeats 4000000 in
theorem r_isKnown {l : Launch} {w : Wd} (hW : Wi w) {σ : Mem} (i y : Nat) (μ : Nat → Int32) (hv : vw 0 σ = μ) (hI : MI μ) (hi : i < 8) (hy : y < 8) : MC l w qX12_isKnown 2 [.ref (w.1 0), .int (nI i), .int (nI y)] σ (some (.int (b2i (tb (kno μ i (μ (64 + i))) y)))) (fun σ' => σ' = σ) := by
  refine MC.of hW (by decide +kernel) (Nat.le_of_ble_eq_true rfl) (fun X h hQ hnm => ?_)
  have h : Fx X w cX12_isKnown 3 RX12 2 := h
  have hQ : Qx X w (some .boolean) (some (.int (b2i (tb (kno μ i (μ (64 + i))) y)))) (fun σ' => σ' = σ) := hQ
  show G X w 3 0 [(0, .ref (w.1 0)), (1, .int (nI i)), (2, .int (nI y))] [] σ
  refine g_aload_n h dX12_isKnown_0 0 rfl ?_
  refine g_iload_n h dX12_isKnown_1 1 rfl ?_
  refine g_aload_n h dX12_isKnown_2 0 rfl ?_
  refine g_bipush h dX12_isKnown_3 (by decide) ?_
  refine g_iload_n h dX12_isKnown_5 1 rfl ?_
  refine g_iaddN h dX12_isKnown_6  ?_
  refine g_cvpi (rest := [.int (nI i), .ref (w.1 0)]) h (r_of hW (64 + i) μ (by assumption) (by omega)) lX12_of mX12_61 (Nat.lt_of_lt_of_le (by decide) (Nat.le_refl _)) (by decide) sc_0 rfl rfl rfl rfl dX12_isKnown_7 ?_
  refine g_cvpi (rest := []) h (r_knownOf hW i (μ (64 + i)) μ (by first | exact hv | assumption | fail) (by assumption) (by omega)) lX12_knownOf mX12_76 (Nat.lt_of_lt_of_le (by decide) (Nat.le_refl _)) (by decide) sc_0 rfl rfl rfl rfl dX12_isKnown_10 ?_
  refine g_iload_n h dX12_isKnown_13 2 rfl ?_
  refine g_cspi (rest := []) h (r_has hW (kno μ i (μ (64 + i))) y (by omega)) lX12_has mX12_65 (Nat.lt_of_lt_of_le (by decide) (Nat.le_refl _)) (by decide) rfl rfl rfl dX12_isKnown_14 ?_
  exact g_zret h hQ dX12_isKnown_17 (show narrow .boolean (.int (b2i (tb (kno μ i (μ (64 + i))) y))) = .int (b2i (tb (kno μ i (μ (64 + i))) y)) from narrow_b2i _) rfl rfl

set_option maxRecDepth 100000 in
set_option maxHeartbeats 4000000 in
theorem r_goesOn {l : Launch} {w : Wd} (hW : Wi w) {σ : Mem} (i x r : Nat) (R : RT) (μ : Nat → Int32) (hv : vw 0 σ = μ) (hI : MI μ) (hi : i < 8) (hx : x < 8) (hr : 1 ≤ r ∧ r ≤ 8) (hxr : rs R x = r) (hb : Rb R) (hcRR_σ : RR σ R) : MC l w qX12_goesOn 3 [.ref (w.1 0), .int (nI i), .int (nI x), .int (nI r)] σ none (fun σ' => (RR σ' (hY μ i x r R (nN μ))) ∧ (∀ a, (a < 5150 ∨ 5168 ≤ a) → σ' a = σ a)) := by
  refine MC.of hW (by decide +kernel) (Nat.le_of_ble_eq_true rfl) (fun X h hQ hnm => ?_)
  have h : Fx X w cX12_goesOn 5 RX12 3 := h
  have hQ : Qx X w none none (fun σ' => (RR σ' (hY μ i x r R (nN μ))) ∧ (∀ a, (a < 5150 ∨ 5168 ≤ a) → σ' a = σ a)) := hQ
  have hN8 := mi_8 hI
  have hcFR_σ : ∀ a, (a < 5150 ∨ 5168 ≤ a) → σ a = σ a := fun _ _ => rfl
  show G X w 5 0 [(0, .ref (w.1 0)), (1, .int (nI i)), (2, .int (nI x)), (3, .int (nI r))] [] σ
  refine g_iconst h dX12_goesOn_0 (by decide) ?_
  refine g_istore (L' := [(0, .ref (w.1 0)), (1, .int (nI i)), (2, .int (nI x)), (3, .int (nI r)), (4, .int (nI 0))]) h dX12_goesOn_1 rfl (by decide) rfl ?_
  have lp3 : ∀ (k9 : Nat) (y : Nat) (R1 : RT) (τ1 : Mem), (R1 = hY μ i x r R y) → (y ≤ nN μ) → (rs R1 x = r) → (vw 0 τ1 = μ) → (RR τ1 R1) → (∀ a, (a < 5150 ∨ 5168 ≤ a) → τ1 a = σ a) → nN μ - y < k9 → G X w 5 3 [(0, .ref (w.1 0)), (1, .int (nI i)), (2, .int (nI x)), (3, .int (nI r)), (4, .int (nI y))] [] (τ1) := by
    intro k9
    induction k9 with
    | zero => intro y R1 τ1 hR1 hy hx1 hvτ1 hcRR_τ1 hcFR_τ1 hm9; exact absurd hm9 (Nat.not_lt_zero _)
    | succ k9 ih3 =>
      intro y R1 τ1 hR1 hy hx1 hvτ1 hcRR_τ1 hcFR_τ1 hm3
      have hb1 : Rb R1 := by rw [hR1]; exact hY_rb (by omega) hb y
      have b1y := hb1 y
      have b1x := hb1 x
      refine g_iload h dX12_goesOn_3 4 rfl ?_
      refine g_aload_n h dX12_goesOn_5 0 rfl ?_
      refine g_iconst h dX12_goesOn_6 (by decide) ?_
      refine g_cvpi (rest := [.int (nI y)]) h (r_of hW 0 μ (by assumption) (by omega)) lX12_of mX12_61 (Nat.lt_of_lt_of_le (by decide) (Nat.le_refl _)) (by decide) sc_0 rfl rfl rfl rfl dX12_goesOn_7 ?_
      refine g_top (y := nI (nN μ)) (mi_0 (by assumption)) ?_
      refine g_icmpN_ge h dX12_goesOn_10 (by omega) (by omega) (fun c10 => ?_) (fun c10 => ?_)
      ·
        exact g_vret h hQ dX12_goesOn_135 rfl (by exact ⟨(by rw [← show y = nN μ from by omega, ← hR1]; exact hcRR_τ1), (by exact hcFR_τ1)⟩)
      ·
        refine g_iload h dX12_goesOn_13 4 rfl ?_
        refine g_iload_n h dX12_goesOn_15 1 rfl ?_
        refine g_icmpN_eq h dX12_goesOn_16 (by omega) (by omega) (fun c16 => ?_) (fun c16 => ?_)
        ·
          refine g_iincN (b := 1) (L' := [(0, .ref (w.1 0)), (1, .int (nI i)), (2, .int (nI x)), (3, .int (nI r)), (4, .int (nI (y + 1)))]) h dX12_goesOn_129 4 rfl rfl (by decide) (by decide) rfl ?_
          refine g_goto h dX12_goesOn_132 ?_
          exact ih3 (y + 1) R1 (τ1) (by simp only [hY]; rw [← hR1]; first | (simp [h1, c10, c16]; done) | (simp [h1, c10, c16]; omega)) (by omega) (by first | assumption | (rw [rs_set, if_neg (by intro q9; subst q9; omega)]; exact hx1) | fail | fail) (by first | exact hvτ1 | assumption | fail | fail) (by first | exact hcRR_τ1 | assumption | fail | fail) (by first | exact hcFR_τ1 | assumption | fail | fail) (by omega)
        ·
          refine g_aload_n h dX12_goesOn_19 0 rfl ?_
          refine g_sipush h dX12_goesOn_20 (by decide) ?_
          refine g_iload_n h dX12_goesOn_23 1 rfl ?_
          refine g_iload_n h dX12_goesOn_24 2 rfl ?_
          refine g_cspi (rest := [.ref (w.1 0)]) h (r_two hW 272 i x ) lX12_two mX12_69 (Nat.lt_of_lt_of_le (by decide) (Nat.le_refl _)) (by decide) rfl rfl rfl dX12_goesOn_25 ?_
          refine g_cvpi (rest := []) h (r_of hW (272 + (8 * i + x)) μ (by assumption) (by omega)) lX12_of mX12_61 (Nat.lt_of_lt_of_le (by decide) (Nat.le_refl _)) (by decide) sc_0 rfl rfl rfl rfl dX12_goesOn_28 ?_
          refine g_iload h dX12_goesOn_31 4 rfl ?_
          refine g_cspi (rest := []) h (r_has hW (μ (272 + (8 * i + x))) y (by omega)) lX12_has mX12_65 (Nat.lt_of_lt_of_le (by decide) (Nat.le_refl _)) (by decide) rfl rfl rfl dX12_goesOn_33 ?_
          refine g_ifB_ne h dX12_goesOn_36 (fun c36 => ?_) (fun c36 => ?_)
          ·
            refine g_aload_n h dX12_goesOn_42 0 rfl ?_
            refine g_getr h dX12_goesOn_43 gX12_42 sc_0 rfl ?_
            refine g_iload h dX12_goesOn_46 4 rfl ?_
            refine g_iald h dX12_goesOn_48 sc_9 (by omega) ?_
            refine g_top (y := (nI (rs R1 y))) ((hcRR_τ1 y (by omega)).1) ?_
            refine g_ifN_ne h dX12_goesOn_49 (by omega) (fun c49 => ?_) (fun c49 => ?_)
            ·
              refine g_aload_n h dX12_goesOn_78 0 rfl ?_
              refine g_getr h dX12_goesOn_79 gX12_42 sc_0 rfl ?_
              refine g_iload h dX12_goesOn_82 4 rfl ?_
              refine g_iald h dX12_goesOn_84 sc_9 (by omega) ?_
              refine g_top (y := (nI (rs R1 y))) ((hcRR_τ1 y (by omega)).1) ?_
              refine g_iload_n h dX12_goesOn_85 3 rfl ?_
              refine g_iconst h dX12_goesOn_86 (by decide) ?_
              refine g_iaddN h dX12_goesOn_87  ?_
              refine g_icmpN_ne h dX12_goesOn_88 (by omega) (by omega) (fun c88 => ?_) (fun c88 => ?_)
              ·
                refine g_iincN (b := 1) (L' := [(0, .ref (w.1 0)), (1, .int (nI i)), (2, .int (nI x)), (3, .int (nI r)), (4, .int (nI (y + 1)))]) h dX12_goesOn_129 4 rfl rfl (by decide) (by decide) rfl ?_
                refine g_goto h dX12_goesOn_132 ?_
                exact ih3 (y + 1) R1 (τ1) (by simp only [hY]; rw [← hR1]; first | (simp [h1, c10, c16, c36, c49, c88]; done) | (simp [h1, c10, c16, c36, c49, c88]; omega)) (by omega) (by first | assumption | (rw [rs_set, if_neg (by intro q9; subst q9; omega)]; exact hx1) | fail | fail) (by first | exact hvτ1 | assumption | fail | fail) (by first | exact hcRR_τ1 | assumption | fail | fail) (by first | exact hcFR_τ1 | assumption | fail | fail) (by omega)
              ·
                refine g_iload_n h dX12_goesOn_91 3 rfl ?_
                refine g_iconst h dX12_goesOn_92 (by decide) ?_
                refine g_icmpN_ne h dX12_goesOn_93 (by omega) (by omega) (fun c93 => ?_) (fun c93 => ?_)
                ·
                  refine g_aload_n h dX12_goesOn_106 0 rfl ?_
                  refine g_getr h dX12_goesOn_107 gX12_45 sc_0 rfl ?_
                  refine g_iload h dX12_goesOn_110 4 rfl ?_
                  refine g_aload_n h dX12_goesOn_112 0 rfl ?_
                  refine g_getr h dX12_goesOn_113 gX12_45 sc_0 rfl ?_
                  refine g_iload h dX12_goesOn_116 4 rfl ?_
                  refine g_iald h dX12_goesOn_118 sc_10 (by omega) ?_
                  refine g_top (y := (nI (rx R1 y))) (by rw [(hcRR_τ1 y (by omega)).2]; exact rn_rx (by omega)) ?_
                  refine g_aload_n h dX12_goesOn_119 0 rfl ?_
                  refine g_getr h dX12_goesOn_120 gX12_45 sc_0 rfl ?_
                  refine g_iload_n h dX12_goesOn_123 2 rfl ?_
                  refine g_iald h dX12_goesOn_124 sc_10 (by omega) ?_
                  refine g_top (y := (nI (rx R1 x))) (by rw [(hcRR_τ1 x hx).2]; exact rn_rx (by omega)) ?_
                  refine g_cspi (rest := [.int (nI y), .ref (w.1 10)]) h (j_min hW (rx R1 y) (rx R1 x) (by omega) (by omega)) lJ9_min_7cf53 mX12_208 (Nat.lt_of_lt_of_le (by decide) (Nat.le_refl _)) (by decide) rfl rfl rfl dX12_goesOn_125 ?_
                  refine g_iast h dX12_goesOn_128 sc_10 (by omega) ?_
                  refine g_nm (fun σc eσc => ?_)
                  have eσc : σc = upd (τ1) (5160 + y) (nI (min (rx R1 y) (rx R1 x))) := eσc
                  have hcFR_σc : ∀ a, (a < 5150 ∨ 5168 ≤ a) → σc a = σ a := by intro a ha; exact Eq.trans (b := (τ1) a) (by rw [eσc, upd_ne (by first | omega | (simp only [vb] at *; omega))]) (hcFR_τ1 a ha)
                  have hvσc : vw 0 σc = μ := by rw [eσc, vw_out (by omega)]; first | exact hvτ1 | assumption
                  have hcRR_σc : RR σc (rset R1 y (r + 1, min (rx R1 y) (rx R1 x))) := RR.min hcRR_τ1 (by omega) (by omega) eσc
                  refine g_iincN (b := 1) (L' := [(0, .ref (w.1 0)), (1, .int (nI i)), (2, .int (nI x)), (3, .int (nI r)), (4, .int (nI (y + 1)))]) h dX12_goesOn_129 4 rfl rfl (by decide) (by decide) rfl ?_
                  refine g_goto h dX12_goesOn_132 ?_
                  exact ih3 (y + 1) (rset R1 y (r + 1, min (rx R1 y) (rx R1 x))) σc (by simp only [hY]; rw [← hR1]; first | (simp [h1, c10, c16, c36, c49, c88, c93]; done) | (simp [h1, c10, c16, c36, c49, c88, c93]; omega)) (by omega) (by first | assumption | (rw [rs_set, if_neg (by intro q9; subst q9; omega)]; exact hx1) | fail | fail) (by first | exact hvσc | assumption | fail | fail) (by first | exact hcRR_σc | assumption | fail | fail) (by first | exact hcFR_σc | assumption | fail | fail) (by omega)
                ·
                  refine g_aload_n h dX12_goesOn_96 0 rfl ?_
                  refine g_iload_n h dX12_goesOn_97 1 rfl ?_
                  refine g_iload h dX12_goesOn_98 4 rfl ?_
                  refine g_cvpi (rest := []) h (r_isKnown hW i y μ (by first | exact hvτ1 | assumption | fail) (by assumption) (by omega) (by omega)) lX12_isKnown mX12_303 (Nat.lt_of_lt_of_le (by decide) (Nat.le_refl _)) (by decide) sc_0 rfl rfl rfl rfl dX12_goesOn_100 ?_
                  refine g_ifB_ne h dX12_goesOn_103 (fun c103 => ?_) (fun c103 => ?_)
                  ·
                    refine g_iincN (b := 1) (L' := [(0, .ref (w.1 0)), (1, .int (nI i)), (2, .int (nI x)), (3, .int (nI r)), (4, .int (nI (y + 1)))]) h dX12_goesOn_129 4 rfl rfl (by decide) (by decide) rfl ?_
                    refine g_goto h dX12_goesOn_132 ?_
                    exact ih3 (y + 1) R1 (τ1) (by simp only [hY]; rw [← hR1]; first | (simp [h1, c10, c16, c36, c49, c88, c93, c103]; done) | (simp [h1, c10, c16, c36, c49, c88, c93, c103]; omega)) (by omega) (by first | assumption | (rw [rs_set, if_neg (by intro q9; subst q9; omega)]; exact hx1) | fail | fail) (by first | exact hvτ1 | assumption | fail | fail) (by first | exact hcRR_τ1 | assumption | fail | fail) (by first | exact hcFR_τ1 | assumption | fail | fail) (by omega)
                  ·
                    refine g_aload_n h dX12_goesOn_106 0 rfl ?_
                    refine g_getr h dX12_goesOn_107 gX12_45 sc_0 rfl ?_
                    refine g_iload h dX12_goesOn_110 4 rfl ?_
                    refine g_aload_n h dX12_goesOn_112 0 rfl ?_
                    refine g_getr h dX12_goesOn_113 gX12_45 sc_0 rfl ?_
                    refine g_iload h dX12_goesOn_116 4 rfl ?_
                    refine g_iald h dX12_goesOn_118 sc_10 (by omega) ?_
                    refine g_top (y := (nI (rx R1 y))) (by rw [(hcRR_τ1 y (by omega)).2]; exact rn_rx (by omega)) ?_
                    refine g_aload_n h dX12_goesOn_119 0 rfl ?_
                    refine g_getr h dX12_goesOn_120 gX12_45 sc_0 rfl ?_
                    refine g_iload_n h dX12_goesOn_123 2 rfl ?_
                    refine g_iald h dX12_goesOn_124 sc_10 (by omega) ?_
                    refine g_top (y := (nI (rx R1 x))) (by rw [(hcRR_τ1 x hx).2]; exact rn_rx (by omega)) ?_
                    refine g_cspi (rest := [.int (nI y), .ref (w.1 10)]) h (j_min hW (rx R1 y) (rx R1 x) (by omega) (by omega)) lJ9_min_7cf53 mX12_208 (Nat.lt_of_lt_of_le (by decide) (Nat.le_refl _)) (by decide) rfl rfl rfl dX12_goesOn_125 ?_
                    refine g_iast h dX12_goesOn_128 sc_10 (by omega) ?_
                    refine g_nm (fun σc eσc => ?_)
                    have eσc : σc = upd (τ1) (5160 + y) (nI (min (rx R1 y) (rx R1 x))) := eσc
                    have hcFR_σc : ∀ a, (a < 5150 ∨ 5168 ≤ a) → σc a = σ a := by intro a ha; exact Eq.trans (b := (τ1) a) (by rw [eσc, upd_ne (by first | omega | (simp only [vb] at *; omega))]) (hcFR_τ1 a ha)
                    have hvσc : vw 0 σc = μ := by rw [eσc, vw_out (by omega)]; first | exact hvτ1 | assumption
                    have hcRR_σc : RR σc (rset R1 y (r + 1, min (rx R1 y) (rx R1 x))) := RR.min hcRR_τ1 (by omega) (by omega) eσc
                    refine g_iincN (b := 1) (L' := [(0, .ref (w.1 0)), (1, .int (nI i)), (2, .int (nI x)), (3, .int (nI r)), (4, .int (nI (y + 1)))]) h dX12_goesOn_129 4 rfl rfl (by decide) (by decide) rfl ?_
                    refine g_goto h dX12_goesOn_132 ?_
                    exact ih3 (y + 1) (rset R1 y (r + 1, min (rx R1 y) (rx R1 x))) σc (by simp only [hY]; rw [← hR1]; first | (simp [h1, c10, c16, c36, c49, c88, c93, c103]; done) | (simp [h1, c10, c16, c36, c49, c88, c93, c103]; omega)) (by omega) (by first | assumption | (rw [rs_set, if_neg (by intro q9; subst q9; omega)]; exact hx1) | fail | fail) (by first | exact hvσc | assumption | fail | fail) (by first | exact hcRR_σc | assumption | fail | fail) (by first | exact hcFR_σc | assumption | fail | fail) (by omega)
            ·
              refine g_aload_n h dX12_goesOn_52 0 rfl ?_
              refine g_getr h dX12_goesOn_53 gX12_42 sc_0 rfl ?_
              refine g_iload h dX12_goesOn_56 4 rfl ?_
              refine g_iload_n h dX12_goesOn_58 3 rfl ?_
              refine g_iconst h dX12_goesOn_59 (by decide) ?_
              refine g_iaddN h dX12_goesOn_60  ?_
              refine g_iast h dX12_goesOn_61 sc_9 (by omega) ?_
              refine g_nm (fun σa eσa => ?_)
              have eσa : σa = upd (τ1) (5150 + y) (nI (r + 1)) := eσa
              have hcFR_σa : ∀ a, (a < 5150 ∨ 5168 ≤ a) → σa a = σ a := by intro a ha; exact Eq.trans (b := (τ1) a) (by rw [eσa, upd_ne (by first | omega | (simp only [vb] at *; omega))]) (hcFR_τ1 a ha)
              have hvσa : vw 0 σa = μ := by rw [eσa, vw_out (by omega)]; first | exact hvτ1 | assumption
              refine g_aload_n h dX12_goesOn_62 0 rfl ?_
              refine g_getr h dX12_goesOn_63 gX12_45 sc_0 rfl ?_
              refine g_iload h dX12_goesOn_66 4 rfl ?_
              refine g_aload_n h dX12_goesOn_68 0 rfl ?_
              refine g_getr h dX12_goesOn_69 gX12_45 sc_0 rfl ?_
              refine g_iload_n h dX12_goesOn_72 2 rfl ?_
              refine g_iald h dX12_goesOn_73 sc_10 (by omega) ?_
              refine g_top (y := (nI (rx R1 x))) (by rw [eσa, upd_ne (by omega), (hcRR_τ1 x hx).2]; exact rn_rx (by omega)) ?_
              refine g_iast h dX12_goesOn_74 sc_10 (by omega) ?_
              refine g_nm (fun σb eσb => ?_)
              have eσb : σb = upd σa (5160 + y) (nI (rx R1 x)) := eσb
              have hcFR_σb : ∀ a, (a < 5150 ∨ 5168 ≤ a) → σb a = σ a := by intro a ha; exact Eq.trans (b := σa a) (by rw [eσb, upd_ne (by first | omega | (simp only [vb] at *; omega))]) (hcFR_σa a ha)
              have hvσb : vw 0 σb = μ := by rw [eσb, vw_out (by omega)]; first | exact hvσa | assumption
              refine g_goto h dX12_goesOn_75 ?_
              have hcRR_σb : RR σb (rset R1 y (r + 1, rx R1 x)) := RR.set hcRR_τ1 (by omega) eσa eσb
              refine g_iincN (b := 1) (L' := [(0, .ref (w.1 0)), (1, .int (nI i)), (2, .int (nI x)), (3, .int (nI r)), (4, .int (nI (y + 1)))]) h dX12_goesOn_129 4 rfl rfl (by decide) (by decide) rfl ?_
              refine g_goto h dX12_goesOn_132 ?_
              exact ih3 (y + 1) (rset R1 y (r + 1, rx R1 x)) σb (by simp only [hY]; rw [← hR1]; first | (simp [h1, c10, c16, c36, c49]; done) | (simp [h1, c10, c16, c36, c49]; omega)) (by omega) (by first | assumption | (rw [rs_set, if_neg (by intro q9; subst q9; omega)]; exact hx1) | fail | fail) (by first | exact hvσb | assumption | fail | fail) (by first | exact hcRR_σb | assumption | fail | fail) (by first | exact hcFR_σb | assumption | fail | fail) (by omega)
          ·
            refine g_goto h dX12_goesOn_39 ?_
            refine g_iincN (b := 1) (L' := [(0, .ref (w.1 0)), (1, .int (nI i)), (2, .int (nI x)), (3, .int (nI r)), (4, .int (nI (y + 1)))]) h dX12_goesOn_129 4 rfl rfl (by decide) (by decide) rfl ?_
            refine g_goto h dX12_goesOn_132 ?_
            exact ih3 (y + 1) R1 (τ1) (by simp only [hY]; rw [← hR1]; first | (simp [h1, c10, c16, c36]; done) | (simp [h1, c10, c16, c36]; omega)) (by omega) (by first | assumption | (rw [rs_set, if_neg (by intro q9; subst q9; omega)]; exact hx1) | fail | fail) (by first | exact hvτ1 | assumption | fail | fail) (by first | exact hcRR_τ1 | assumption | fail | fail) (by first | exact hcFR_τ1 | assumption | fail | fail) (by omega)
  exact lp3 (_) 0 R σ (by rfl) (by omega) (by exact hxr) (by first | exact hv | assumption | fail | fail) (by first | exact hcRR_σ | assumption | fail | fail) (by first | exact hcFR_σ | assumption | fail | fail) (Nat.lt_succ_self _)

set_option maxRecDepth 100000 in
set_option maxHeartbeats 4000000 in
theorem r_laysRoutes {l : Launch} {w : Wd} (hW : Wi w) {σ : Mem} (i : Nat) (μ : Nat → Int32) (hv : vw 0 σ = μ) (hI : MI μ) (hi : i < 8) : MC l w qX12_laysRoutes 4 [.ref (w.1 0), .int (nI i)] σ none (fun σ' => (RR σ' (rts μ i 6)) ∧ (∀ a, (a < 5150 ∨ 5168 ≤ a) → σ' a = σ a)) := by
  refine MC.of hW (by decide +kernel) (Nat.le_of_ble_eq_true rfl) (fun X h hQ hnm => ?_)
  have h : Fx X w cX12_laysRoutes 5 RX12 4 := h
  have hQ : Qx X w none none (fun σ' => (RR σ' (rts μ i 6)) ∧ (∀ a, (a < 5150 ∨ 5168 ≤ a) → σ' a = σ a)) := hQ
  have hN8 := mi_8 hI
  have hcFR_σ : ∀ a, (a < 5150 ∨ 5168 ≤ a) → σ a = σ a := fun _ _ => rfl
  show G X w 5 0 [(0, .ref (w.1 0)), (1, .int (nI i))] [] σ
  refine g_iconst h dX12_laysRoutes_0 (by decide) ?_
  refine g_istore_n (L' := [(0, .ref (w.1 0)), (1, .int (nI i)), (2, .int (nI 0))]) h dX12_laysRoutes_1 rfl (by decide) rfl ?_
  have lp2 : ∀ (k9 : Nat) (k : Nat) (τ1 : Mem), (k ≤ 8) → (RZ μ i k τ1) → (vw 0 τ1 = μ) → (∀ a, (a < 5150 ∨ 5168 ≤ a) → τ1 a = σ a) → 8 - k < k9 → G X w 5 2 [(0, .ref (w.1 0)), (1, .int (nI i)), (2, .int (nI k))] [] (τ1) := by
    intro k9
    induction k9 with
    | zero => intro k τ1 hk hz hvτ1 hcFR_τ1 hm9; exact absurd hm9 (Nat.not_lt_zero _)
    | succ k9 ih2 =>
      intro k τ1 hk hz hvτ1 hcFR_τ1 hm2
      refine g_iload_n h dX12_laysRoutes_2 2 rfl ?_
      refine g_bipush h dX12_laysRoutes_3 (by decide) ?_
      refine g_icmpN_ge h dX12_laysRoutes_5 (by omega) (by omega) (fun c5 => ?_) (fun c5 => ?_)
      ·
        have hcRR_τ1 : RR τ1 (r0 μ i) := fun y hy => hz y (by omega)
        refine g_iconst h dX12_laysRoutes_57 (by decide) ?_
        refine g_istore_n (L' := [(0, .ref (w.1 0)), (1, .int (nI i)), (2, .int (nI 0))]) h dX12_laysRoutes_58 rfl (by decide) rfl ?_
        have lp59 : ∀ (k9 : Nat) (j : Nat) (R1 : RT) (τ2 : Mem), (R1 = kJ μ i j) → (j ≤ nN μ) → (vw 0 τ2 = μ) → (∀ a, (a < 5150 ∨ 5168 ≤ a) → τ2 a = σ a) → (RR τ2 R1) → nN μ - j < k9 → G X w 5 59 [(0, .ref (w.1 0)), (1, .int (nI i)), (2, .int (nI j))] [] (τ2) := by
          intro k9
          induction k9 with
          | zero => intro j R1 τ2 hR1 hj hvτ2 hcFR_τ2 hcRR_τ2 hm9; exact absurd hm9 (Nat.not_lt_zero _)
          | succ k9 ih59 =>
            intro j R1 τ2 hR1 hj hvτ2 hcFR_τ2 hcRR_τ2 hm59
            refine g_iload_n h dX12_laysRoutes_59 2 rfl ?_
            refine g_aload_n h dX12_laysRoutes_60 0 rfl ?_
            refine g_iconst h dX12_laysRoutes_61 (by decide) ?_
            refine g_cvpi (rest := [.int (nI j)]) h (r_of hW 0 μ (by assumption) (by omega)) lX12_of mX12_61 (Nat.lt_of_lt_of_le (by decide) (Nat.le_refl _)) (by decide) sc_0 rfl rfl rfl rfl dX12_laysRoutes_62 ?_
            refine g_top (y := nI (nN μ)) (mi_0 (by assumption)) ?_
            refine g_icmpN_ge h dX12_laysRoutes_65 (by omega) (by omega) (fun c65 => ?_) (fun c65 => ?_)
            ·
              refine g_iconst h dX12_laysRoutes_156 (by decide) ?_
              refine g_istore_n (L' := [(0, .ref (w.1 0)), (1, .int (nI i)), (2, .int (nI 1))]) h dX12_laysRoutes_157 rfl (by decide) rfl ?_
              have lp158 : ∀ (k9 : Nat) (R3 : RT) (τ4 : Mem) (r : Nat), (R3 = rgF μ i r) → (r ≤ 8) → (vw 0 τ4 = μ) → (∀ a, (a < 5150 ∨ 5168 ≤ a) → τ4 a = σ a) → (RR τ4 R3) → 8 - r < k9 → G X w 5 158 [(0, .ref (w.1 0)), (1, .int (nI i)), (2, .int (nI (r + 1)))] [] (τ4) := by
                intro k9
                induction k9 with
                | zero => intro R3 τ4 r hR3 hr hvτ4 hcFR_τ4 hcRR_τ4 hm9; exact absurd hm9 (Nat.not_lt_zero _)
                | succ k9 ih158 =>
                  intro R3 τ4 r hR3 hr hvτ4 hcFR_τ4 hcRR_τ4 hm158
                  have hb3 : Rb R3 := by rw [hR3]; exact rgF_rb hI hi r (by omega)
                  have hH3 : Hr μ i (r + 1) R3 := by rw [hR3, rgF_rts hI hi]; exact rts_hr hI hi r
                  refine g_iload_n h dX12_laysRoutes_158 2 rfl ?_
                  refine g_bipush h dX12_laysRoutes_159 (by decide) ?_
                  refine g_icmpN_gt h dX12_laysRoutes_161 (by omega) (by omega) (fun c161 => ?_) (fun c161 => ?_)
                  ·
                    exact g_vret h hQ dX12_laysRoutes_265 rfl (by exact ⟨(by rw [← rts_8 hI hi, ← show r = 8 from by omega, ← hR3]; exact hcRR_τ4), (by exact hcFR_τ4)⟩)
                  ·
                    refine g_iconst h dX12_laysRoutes_164 (by decide) ?_
                    refine g_istore_n (L' := [(0, .ref (w.1 0)), (1, .int (nI i)), (2, .int (nI (r + 1))), (3, .int (nI 0))]) h dX12_laysRoutes_165 rfl (by decide) rfl ?_
                    refine g_iconst h dX12_laysRoutes_166 (by decide) ?_
                    refine g_istore (L' := [(0, .ref (w.1 0)), (1, .int (nI i)), (2, .int (nI (r + 1))), (3, .int (nI 0)), (4, .int (nI 0))]) h dX12_laysRoutes_167 rfl (by decide) rfl ?_
                    have lp169 : ∀ (k9 : Nat) (s : Int32) (x : Nat), (s = hrS2 R3 (r + 1) x) → (x ≤ nN μ) → nN μ - x < k9 → G X w 5 169 [(0, .ref (w.1 0)), (1, .int (nI i)), (2, .int (nI (r + 1))), (3, .int s), (4, .int (nI x))] [] (τ4) := by
                      intro k9
                      induction k9 with
                      | zero => intro s x hs hx hm9; exact absurd hm9 (Nat.not_lt_zero _)
                      | succ k9 ih169 =>
                        intro s x hs hx hm169
                        have b3x := hb3 x
                        refine g_iload h dX12_laysRoutes_169 4 rfl ?_
                        refine g_aload_n h dX12_laysRoutes_171 0 rfl ?_
                        refine g_iconst h dX12_laysRoutes_172 (by decide) ?_
                        refine g_cvpi (rest := [.int (nI x)]) h (r_of hW 0 μ (by assumption) (by omega)) lX12_of mX12_61 (Nat.lt_of_lt_of_le (by decide) (Nat.le_refl _)) (by decide) sc_0 rfl rfl rfl rfl dX12_laysRoutes_173 ?_
                        refine g_top (y := nI (nN μ)) (mi_0 (by assumption)) ?_
                        refine g_icmpN_ge h dX12_laysRoutes_176 (by omega) (by omega) (fun c176 => ?_) (fun c176 => ?_)
                        ·
                          refine g_iconst h dX12_laysRoutes_207 (by decide) ?_
                          refine g_istore (L' := [(0, .ref (w.1 0)), (1, .int (nI i)), (2, .int (nI (r + 1))), (3, .int s), (4, .int (nI 0))]) h dX12_laysRoutes_208 rfl (by decide) rfl ?_
                          have lp210 : ∀ (k9 : Nat) (x2 : Nat) (R4 : RT) (τ5 : Mem), (R4 = hX μ i (r + 1) s R3 x2) → (x2 ≤ nN μ) → (vw 0 τ5 = μ) → (∀ a, (a < 5150 ∨ 5168 ≤ a) → τ5 a = σ a) → (RR τ5 R4) → nN μ - x2 < k9 → G X w 5 210 [(0, .ref (w.1 0)), (1, .int (nI i)), (2, .int (nI (r + 1))), (3, .int s), (4, .int (nI x2))] [] (τ5) := by
                            intro k9
                            induction k9 with
                            | zero => intro x2 R4 τ5 hR4 hx2 hvτ5 hcFR_τ5 hcRR_τ5 hm9; exact absurd hm9 (Nat.not_lt_zero _)
                            | succ k9 ih210 =>
                              intro x2 R4 τ5 hR4 hx2 hvτ5 hcFR_τ5 hcRR_τ5 hm210
                              have hb4 : Rb R4 := by rw [hR4]; exact hX_rb (by omega) hb3 x2
                              have hsE : s = hrS2 R3 (r + 1) (nN μ) := by rw [hs, show x = nN μ from by omega]
                              refine g_iload h dX12_laysRoutes_210 4 rfl ?_
                              refine g_aload_n h dX12_laysRoutes_212 0 rfl ?_
                              refine g_iconst h dX12_laysRoutes_213 (by decide) ?_
                              refine g_cvpi (rest := [.int (nI x2)]) h (r_of hW 0 μ (by assumption) (by omega)) lX12_of mX12_61 (Nat.lt_of_lt_of_le (by decide) (Nat.le_refl _)) (by decide) sc_0 rfl rfl rfl rfl dX12_laysRoutes_214 ?_
                              refine g_top (y := nI (nN μ)) (mi_0 (by assumption)) ?_
                              refine g_icmpN_ge h dX12_laysRoutes_217 (by omega) (by omega) (fun c217 => ?_) (fun c217 => ?_)
                              ·
                                refine g_iincN (b := 1) (L' := [(0, .ref (w.1 0)), (1, .int (nI i)), (2, .int (nI (r + 1 + 1))), (3, .int s), (4, .int (nI x2))]) h dX12_laysRoutes_259 2 rfl rfl (by decide) (by decide) rfl ?_
                                refine g_goto h dX12_laysRoutes_262 ?_
                                exact g_sub [0, 1, 2] rfl (ih158 R4 (τ5) (r + 1) (by simp only [rgF]; rw [← hR3, hR4, show x2 = nN μ from by omega, hs, show x = nN μ from by omega]) (by omega) (by first | exact hvτ5 | assumption | fail | fail) (by first | exact hcFR_τ5 | assumption | fail | fail) (by first | exact hcRR_τ5 | assumption | fail | fail) (by omega))
                              ·
                                refine g_iload_n h dX12_laysRoutes_220 3 rfl ?_
                                refine g_iload h dX12_laysRoutes_221 4 rfl ?_
                                refine g_cspi (rest := []) h (r_has hW s x2 (by omega)) lX12_has mX12_65 (Nat.lt_of_lt_of_le (by decide) (Nat.le_refl _)) (by decide) rfl rfl rfl dX12_laysRoutes_223 ?_
                                refine g_ifB_eq h dX12_laysRoutes_226 (fun c226 => ?_) (fun c226 => ?_)
                                ·
                                  refine g_iincN (b := 1) (L' := [(0, .ref (w.1 0)), (1, .int (nI i)), (2, .int (nI (r + 1))), (3, .int s), (4, .int (nI (x2 + 1)))]) h dX12_laysRoutes_253 4 rfl rfl (by decide) (by decide) rfl ?_
                                  refine g_goto h dX12_laysRoutes_256 ?_
                                  exact ih210 (x2 + 1) R4 (τ5) (by simp only [hX]; rw [← hR4]; first | (simp [c5, c65, c161, c176, c217, c226]; done) | (simp [c5, c65, c161, c176, c217, c226]; omega)) (by omega) (by first | exact hvτ5 | assumption | fail | fail) (by first | exact hcFR_τ5 | assumption | fail | fail) (by first | exact hcRR_τ5 | assumption | fail | fail) (by omega)
                                ·
                                  refine g_aload_n h dX12_laysRoutes_229 0 rfl ?_
                                  refine g_sipush h dX12_laysRoutes_230 (by decide) ?_
                                  refine g_iload_n h dX12_laysRoutes_233 1 rfl ?_
                                  refine g_iload h dX12_laysRoutes_234 4 rfl ?_
                                  refine g_cspi (rest := [.ref (w.1 0)]) h (r_two hW 400 i x2 ) lX12_two mX12_69 (Nat.lt_of_lt_of_le (by decide) (Nat.le_refl _)) (by decide) rfl rfl rfl dX12_laysRoutes_236 ?_
                                  refine g_cvpi (rest := []) h (r_of hW (400 + (8 * i + x2)) μ (by assumption) (by omega)) lX12_of mX12_61 (Nat.lt_of_lt_of_le (by decide) (Nat.le_refl _)) (by decide) sc_0 rfl rfl rfl rfl dX12_laysRoutes_239 ?_
                                  refine g_top (y := nI (nA μ (400 + (8 * i + x2)))) (mi_400 (by assumption) (by omega)) ?_
                                  have b9_239 : nA μ (400 + (8 * i + x2)) < 100 := mb_400 (by assumption) (by omega)
                                  refine g_ifN_le h dX12_laysRoutes_242 (by omega) (fun c242 => ?_) (fun c242 => ?_)
                                  ·
                                    refine g_iincN (b := 1) (L' := [(0, .ref (w.1 0)), (1, .int (nI i)), (2, .int (nI (r + 1))), (3, .int s), (4, .int (nI (x2 + 1)))]) h dX12_laysRoutes_253 4 rfl rfl (by decide) (by decide) rfl ?_
                                    refine g_goto h dX12_laysRoutes_256 ?_
                                    exact ih210 (x2 + 1) R4 (τ5) (by simp only [hX]; rw [← hR4]; first | (simp [c5, c65, c161, c176, c217, c226, c242]; done) | (simp [c5, c65, c161, c176, c217, c226, c242]; omega)) (by omega) (by first | exact hvτ5 | assumption | fail | fail) (by first | exact hcFR_τ5 | assumption | fail | fail) (by first | exact hcRR_τ5 | assumption | fail | fail) (by omega)
                                  ·
                                    have h3x : rs R3 x2 = r + 1 := by rw [hsE] at c226; unfold hrS2 at c226; rw [tb_mkS _ _ (by omega)] at c226; simp only [Bool.and_eq_true, decide_eq_true_eq] at c226; exact c226.2
                                    have h4x : rs R4 x2 = r + 1 := by have q9 := hX_at hN8 hH3 x2 (by omega) x2; rw [← hsE, ← hR4, if_neg (by omega)] at q9; unfold rs; rw [q9]; exact h3x
                                    refine g_aload_n h dX12_laysRoutes_245 0 rfl ?_
                                    refine g_iload_n h dX12_laysRoutes_246 1 rfl ?_
                                    refine g_iload h dX12_laysRoutes_247 4 rfl ?_
                                    refine g_iload_n h dX12_laysRoutes_249 2 rfl ?_
                                    refine g_cvv (rest := []) h (r_goesOn hW i x2 (r + 1) R4 μ (by first | exact hvτ5 | assumption | fail) (by assumption) (by omega) (by omega) (by omega) (by exact h4x) (by exact hb4) (by first | exact hcRR_τ5 | assumption | fail)) lX12_goesOn mX12_299 (Nat.lt_of_lt_of_le (by decide) (Nat.le_refl _)) (by decide) sc_0 rfl rfl rfl rfl dX12_laysRoutes_250 (fun σ_1 eσ_1 => ?_)
                                    obtain ⟨eσ_1_a, eσ_1_b⟩ := eσ_1
                                    have eσ_1_a : RR σ_1 (hY μ i x2 (r + 1) R4 (nN μ)) := eσ_1_a
                                    have eσ_1_b : ∀ a, (a < 5150 ∨ 5168 ≤ a) → σ_1 a = (τ5) a := eσ_1_b
                                    have hcFR_σ_1 : ∀ a, (a < 5150 ∨ 5168 ≤ a) → σ_1 a = σ a := by intro a ha; exact Eq.trans (b := (τ5) a) (eσ_1_b a (by first | omega | (simp only [vb] at *; omega))) (hcFR_τ5 a ha)
                                    have hcRR_σ_1 : RR σ_1 (hY μ i x2 (r + 1) R4 (nN μ)) := eσ_1_a
                                    have hvσ_1 : vw 0 σ_1 = μ := by rw [vw_fr (σ := (τ5)) (fun j _ _ => eσ_1_b _ (by first | omega | (simp only [vb] at *; omega)))]; first | exact hvτ5 | assumption
                                    refine g_iincN (b := 1) (L' := [(0, .ref (w.1 0)), (1, .int (nI i)), (2, .int (nI (r + 1))), (3, .int s), (4, .int (nI (x2 + 1)))]) h dX12_laysRoutes_253 4 rfl rfl (by decide) (by decide) rfl ?_
                                    refine g_goto h dX12_laysRoutes_256 ?_
                                    exact ih210 (x2 + 1) (hY μ i x2 (r + 1) R4 (nN μ)) σ_1 (by simp only [hX]; rw [← hR4]; first | (simp [c5, c65, c161, c176, c217, c226, c242]; done) | (simp [c5, c65, c161, c176, c217, c226, c242]; omega)) (by omega) (by first | exact hvσ_1 | assumption | fail | fail) (by first | exact hcFR_σ_1 | assumption | fail | fail) (by first | exact hcRR_σ_1 | assumption | fail | fail) (by omega)
                          exact lp210 (_) 0 R3 (τ4) (by rfl) (by omega) (by first | exact hvτ4 | assumption | fail | fail) (by first | exact hcFR_τ4 | assumption | fail | fail) (by first | exact hcRR_τ4 | assumption | fail | fail) (Nat.lt_succ_self _)
                        ·
                          refine g_iload_n h dX12_laysRoutes_179 3 rfl ?_
                          refine g_aload_n h dX12_laysRoutes_180 0 rfl ?_
                          refine g_getr h dX12_laysRoutes_181 gX12_42 sc_0 rfl ?_
                          refine g_iload h dX12_laysRoutes_184 4 rfl ?_
                          refine g_iald h dX12_laysRoutes_186 sc_9 (by omega) ?_
                          refine g_top (y := (nI (rs R3 x))) ((hcRR_τ4 x (by omega)).1) ?_
                          refine g_iload_n h dX12_laysRoutes_187 2 rfl ?_
                          refine g_icmpN_ne h dX12_laysRoutes_188 (by omega) (by omega) (fun c188 => ?_) (fun c188 => ?_)
                          ·
                            refine g_iconst h dX12_laysRoutes_198 (by decide) ?_
                            refine g_ior h dX12_laysRoutes_199  ?_
                            refine g_istore_n (L' := [(0, .ref (w.1 0)), (1, .int (nI i)), (2, .int (nI (r + 1))), (3, .int (s ||| (nI 0))), (4, .int (nI x))]) h dX12_laysRoutes_200 rfl (by decide) rfl ?_
                            refine g_iincN (b := 1) (L' := [(0, .ref (w.1 0)), (1, .int (nI i)), (2, .int (nI (r + 1))), (3, .int (s ||| (nI 0))), (4, .int (nI (x + 1)))]) h dX12_laysRoutes_201 4 rfl rfl (by decide) (by decide) rfl ?_
                            refine g_goto h dX12_laysRoutes_204 ?_
                            exact ih169 (s ||| (nI 0)) (x + 1) (by simp only [hrS2, mkS]; simp [c5, c65, c161, c176, c188, hs, hrS2, or_n0]) (by omega) (by omega)
                          ·
                            refine g_iconst h dX12_laysRoutes_191 (by decide) ?_
                            refine g_iload h dX12_laysRoutes_192 4 rfl ?_
                            refine g_ishl h dX12_laysRoutes_194  ?_
                            refine g_top (y := bt1 x) rfl ?_
                            refine g_goto h dX12_laysRoutes_195 ?_
                            refine g_ior h dX12_laysRoutes_199  ?_
                            refine g_istore_n (L' := [(0, .ref (w.1 0)), (1, .int (nI i)), (2, .int (nI (r + 1))), (3, .int (s ||| (bt1 x))), (4, .int (nI x))]) h dX12_laysRoutes_200 rfl (by decide) rfl ?_
                            refine g_iincN (b := 1) (L' := [(0, .ref (w.1 0)), (1, .int (nI i)), (2, .int (nI (r + 1))), (3, .int (s ||| (bt1 x))), (4, .int (nI (x + 1)))]) h dX12_laysRoutes_201 4 rfl rfl (by decide) (by decide) rfl ?_
                            refine g_goto h dX12_laysRoutes_204 ?_
                            exact ih169 (s ||| (bt1 x)) (x + 1) (by simp only [hrS2, mkS]; simp [c5, c65, c161, c176, c188, hs, hrS2, or_n0]) (by omega) (by omega)
                    exact lp169 (_) (nI 0) 0 (by rfl) (by omega) (Nat.lt_succ_self _)
              exact lp158 (_) R1 (τ2) 0 (by rw [hR1, show j = nN μ from by omega]; rfl) (by omega) (by first | exact hvτ2 | assumption | fail | fail) (by first | exact hcFR_τ2 | assumption | fail | fail) (by first | exact hcRR_τ2 | assumption | fail | fail) (Nat.lt_succ_self _)
            ·
              refine g_iconst h dX12_laysRoutes_68 (by decide) ?_
              refine g_istore_n (L' := [(0, .ref (w.1 0)), (1, .int (nI i)), (2, .int (nI j)), (3, .int (nI 0))]) h dX12_laysRoutes_69 rfl (by decide) rfl ?_
              have lp70 : ∀ (k9 : Nat) (y : Nat) (R2 : RT) (τ3 : Mem), (R2 = kY μ i j R1 y) → (y ≤ nN μ) → (vw 0 τ3 = μ) → (∀ a, (a < 5150 ∨ 5168 ≤ a) → τ3 a = σ a) → (RR τ3 R2) → nN μ - y < k9 → G X w 5 70 [(0, .ref (w.1 0)), (1, .int (nI i)), (2, .int (nI j)), (3, .int (nI y))] [] (τ3) := by
                intro k9
                induction k9 with
                | zero => intro y R2 τ3 hR2 hy hvτ3 hcFR_τ3 hcRR_τ3 hm9; exact absurd hm9 (Nat.not_lt_zero _)
                | succ k9 ih70 =>
                  intro y R2 τ3 hR2 hy hvτ3 hcFR_τ3 hcRR_τ3 hm70
                  have hb2 : Rb R2 := by rw [hR2, hR1]; exact kY_rb (by omega) (kJ_rb hI hi j (by omega)) y
                  have b2y := hb2 y
                  refine g_iload_n h dX12_laysRoutes_70 3 rfl ?_
                  refine g_aload_n h dX12_laysRoutes_71 0 rfl ?_
                  refine g_iconst h dX12_laysRoutes_72 (by decide) ?_
                  refine g_cvpi (rest := [.int (nI y)]) h (r_of hW 0 μ (by assumption) (by omega)) lX12_of mX12_61 (Nat.lt_of_lt_of_le (by decide) (Nat.le_refl _)) (by decide) sc_0 rfl rfl rfl rfl dX12_laysRoutes_73 ?_
                  refine g_top (y := nI (nN μ)) (mi_0 (by assumption)) ?_
                  refine g_icmpN_ge h dX12_laysRoutes_76 (by omega) (by omega) (fun c76 => ?_) (fun c76 => ?_)
                  ·
                    refine g_iincN (b := 1) (L' := [(0, .ref (w.1 0)), (1, .int (nI i)), (2, .int (nI (j + 1))), (3, .int (nI y))]) h dX12_laysRoutes_150 2 rfl rfl (by decide) (by decide) rfl ?_
                    refine g_goto h dX12_laysRoutes_153 ?_
                    exact g_sub [0, 1, 2] rfl (ih59 (j + 1) R2 (τ3) (by simp only [kJ]; rw [← hR1, hR2, show y = nN μ from by omega]) (by omega) (by first | exact hvτ3 | assumption | fail | fail) (by first | exact hcFR_τ3 | assumption | fail | fail) (by first | exact hcRR_τ3 | assumption | fail | fail) (by omega))
                  ·
                    refine g_aload_n h dX12_laysRoutes_79 0 rfl ?_
                    refine g_bipush h dX12_laysRoutes_80 (by decide) ?_
                    refine g_iload_n h dX12_laysRoutes_82 1 rfl ?_
                    refine g_iaddN h dX12_laysRoutes_83  ?_
                    refine g_cvpi (rest := []) h (r_of hW (64 + i) μ (by assumption) (by omega)) lX12_of mX12_61 (Nat.lt_of_lt_of_le (by decide) (Nat.le_refl _)) (by decide) sc_0 rfl rfl rfl rfl dX12_laysRoutes_84 ?_
                    refine g_iload_n h dX12_laysRoutes_87 2 rfl ?_
                    refine g_cspi (rest := []) h (r_has hW (μ (64 + i)) j (by omega)) lX12_has mX12_65 (Nat.lt_of_lt_of_le (by decide) (Nat.le_refl _)) (by decide) rfl rfl rfl dX12_laysRoutes_88 ?_
                    refine g_ifB_eq h dX12_laysRoutes_91 (fun c91 => ?_) (fun c91 => ?_)
                    ·
                      refine g_iincN (b := 1) (L' := [(0, .ref (w.1 0)), (1, .int (nI i)), (2, .int (nI j)), (3, .int (nI (y + 1)))]) h dX12_laysRoutes_144 3 rfl rfl (by decide) (by decide) rfl ?_
                      refine g_goto h dX12_laysRoutes_147 ?_
                      exact ih70 (y + 1) R2 (τ3) (by simp only [kY]; rw [← hR2]; first | (simp [k1, c5, c65, c76, c91]; done) | (simp [k1, c5, c65, c76, c91]; omega)) (by omega) (by first | exact hvτ3 | assumption | fail | fail) (by first | exact hcFR_τ3 | assumption | fail | fail) (by first | exact hcRR_τ3 | assumption | fail | fail) (by omega)
                    ·
                      refine g_aload_n h dX12_laysRoutes_94 0 rfl ?_
                      refine g_sipush h dX12_laysRoutes_95 (by decide) ?_
                      refine g_iload_n h dX12_laysRoutes_98 1 rfl ?_
                      refine g_iload_n h dX12_laysRoutes_99 2 rfl ?_
                      refine g_cspi (rest := [.ref (w.1 0)]) h (r_two hW 144 i j ) lX12_two mX12_69 (Nat.lt_of_lt_of_le (by decide) (Nat.le_refl _)) (by decide) rfl rfl rfl dX12_laysRoutes_100 ?_
                      refine g_cvpi (rest := []) h (r_of hW (144 + (8 * i + j)) μ (by assumption) (by omega)) lX12_of mX12_61 (Nat.lt_of_lt_of_le (by decide) (Nat.le_refl _)) (by decide) sc_0 rfl rfl rfl rfl dX12_laysRoutes_103 ?_
                      refine g_iload_n h dX12_laysRoutes_106 3 rfl ?_
                      refine g_cspi (rest := []) h (r_has hW (μ (144 + (8 * i + j))) y (by omega)) lX12_has mX12_65 (Nat.lt_of_lt_of_le (by decide) (Nat.le_refl _)) (by decide) rfl rfl rfl dX12_laysRoutes_107 ?_
                      refine g_ifB_eq h dX12_laysRoutes_110 (fun c110 => ?_) (fun c110 => ?_)
                      ·
                        refine g_iincN (b := 1) (L' := [(0, .ref (w.1 0)), (1, .int (nI i)), (2, .int (nI j)), (3, .int (nI (y + 1)))]) h dX12_laysRoutes_144 3 rfl rfl (by decide) (by decide) rfl ?_
                        refine g_goto h dX12_laysRoutes_147 ?_
                        exact ih70 (y + 1) R2 (τ3) (by simp only [kY]; rw [← hR2]; first | (simp [k1, c5, c65, c76, c91, c110]; done) | (simp [k1, c5, c65, c76, c91, c110]; omega)) (by omega) (by first | exact hvτ3 | assumption | fail | fail) (by first | exact hcFR_τ3 | assumption | fail | fail) (by first | exact hcRR_τ3 | assumption | fail | fail) (by omega)
                      ·
                        refine g_iload_n h dX12_laysRoutes_113 3 rfl ?_
                        refine g_iload_n h dX12_laysRoutes_114 1 rfl ?_
                        refine g_icmpN_eq h dX12_laysRoutes_115 (by omega) (by omega) (fun c115 => ?_) (fun c115 => ?_)
                        ·
                          refine g_iincN (b := 1) (L' := [(0, .ref (w.1 0)), (1, .int (nI i)), (2, .int (nI j)), (3, .int (nI (y + 1)))]) h dX12_laysRoutes_144 3 rfl rfl (by decide) (by decide) rfl ?_
                          refine g_goto h dX12_laysRoutes_147 ?_
                          exact ih70 (y + 1) R2 (τ3) (by simp only [kY]; rw [← hR2]; first | (simp [k1, c5, c65, c76, c91, c110, c115]; done) | (simp [k1, c5, c65, c76, c91, c110, c115]; omega)) (by omega) (by first | exact hvτ3 | assumption | fail | fail) (by first | exact hcFR_τ3 | assumption | fail | fail) (by first | exact hcRR_τ3 | assumption | fail | fail) (by omega)
                        ·
                          refine g_aload_n h dX12_laysRoutes_118 0 rfl ?_
                          refine g_getr h dX12_laysRoutes_119 gX12_42 sc_0 rfl ?_
                          refine g_iload_n h dX12_laysRoutes_122 3 rfl ?_
                          refine g_iald h dX12_laysRoutes_123 sc_9 (by omega) ?_
                          refine g_top (y := (nI (rs R2 y))) ((hcRR_τ3 y (by omega)).1) ?_
                          refine g_ifN_le h dX12_laysRoutes_124 (by omega) (fun c124 => ?_) (fun c124 => ?_)
                          ·
                            refine g_aload_n h dX12_laysRoutes_130 0 rfl ?_
                            refine g_getr h dX12_laysRoutes_131 gX12_42 sc_0 rfl ?_
                            refine g_iload_n h dX12_laysRoutes_134 3 rfl ?_
                            refine g_iconst h dX12_laysRoutes_135 (by decide) ?_
                            refine g_iast h dX12_laysRoutes_136 sc_9 (by omega) ?_
                            refine g_nm (fun σc eσc => ?_)
                            have eσc : σc = upd (τ3) (5150 + y) (nI 2) := eσc
                            have hcFR_σc : ∀ a, (a < 5150 ∨ 5168 ≤ a) → σc a = σ a := by intro a ha; exact Eq.trans (b := (τ3) a) (by rw [eσc, upd_ne (by first | omega | (simp only [vb] at *; omega))]) (hcFR_τ3 a ha)
                            have hvσc : vw 0 σc = μ := by rw [eσc, vw_out (by omega)]; first | exact hvτ3 | assumption
                            refine g_aload_n h dX12_laysRoutes_137 0 rfl ?_
                            refine g_getr h dX12_laysRoutes_138 gX12_45 sc_0 rfl ?_
                            refine g_iload_n h dX12_laysRoutes_141 3 rfl ?_
                            refine g_iload_n h dX12_laysRoutes_142 2 rfl ?_
                            refine g_iast h dX12_laysRoutes_143 sc_10 (by omega) ?_
                            refine g_nm (fun σd eσd => ?_)
                            have eσd : σd = upd σc (5160 + y) (nI j) := eσd
                            have hcFR_σd : ∀ a, (a < 5150 ∨ 5168 ≤ a) → σd a = σ a := by intro a ha; exact Eq.trans (b := σc a) (by rw [eσd, upd_ne (by first | omega | (simp only [vb] at *; omega))]) (hcFR_σc a ha)
                            have hvσd : vw 0 σd = μ := by rw [eσd, vw_out (by omega)]; first | exact hvσc | assumption
                            have hcRR_σd : RR σd (rset R2 y (2, j)) := RR.set hcRR_τ3 (by omega) eσc eσd
                            refine g_iincN (b := 1) (L' := [(0, .ref (w.1 0)), (1, .int (nI i)), (2, .int (nI j)), (3, .int (nI (y + 1)))]) h dX12_laysRoutes_144 3 rfl rfl (by decide) (by decide) rfl ?_
                            refine g_goto h dX12_laysRoutes_147 ?_
                            exact ih70 (y + 1) (rset R2 y (2, j)) σd (by simp only [kY]; rw [← hR2]; first | (simp [k1, c5, c65, c76, c91, c110, c115, c124]; done) | (simp [k1, c5, c65, c76, c91, c110, c115, c124]; omega)) (by omega) (by first | exact hvσd | assumption | fail | fail) (by first | exact hcFR_σd | assumption | fail | fail) (by first | exact hcRR_σd | assumption | fail | fail) (by omega)
                          ·
                            refine g_goto h dX12_laysRoutes_127 ?_
                            refine g_iincN (b := 1) (L' := [(0, .ref (w.1 0)), (1, .int (nI i)), (2, .int (nI j)), (3, .int (nI (y + 1)))]) h dX12_laysRoutes_144 3 rfl rfl (by decide) (by decide) rfl ?_
                            refine g_goto h dX12_laysRoutes_147 ?_
                            exact ih70 (y + 1) R2 (τ3) (by simp only [kY]; rw [← hR2]; first | (simp [k1, c5, c65, c76, c91, c110, c115, c124]; done) | (simp [k1, c5, c65, c76, c91, c110, c115, c124]; omega)) (by omega) (by first | exact hvτ3 | assumption | fail | fail) (by first | exact hcFR_τ3 | assumption | fail | fail) (by first | exact hcRR_τ3 | assumption | fail | fail) (by omega)
              exact lp70 (_) 0 R1 (τ2) (by rfl) (by omega) (by first | exact hvτ2 | assumption | fail | fail) (by first | exact hcFR_τ2 | assumption | fail | fail) (by first | exact hcRR_τ2 | assumption | fail | fail) (Nat.lt_succ_self _)
        exact lp59 (_) 0 (r0 μ i) (τ1) (by rfl) (by omega) (by first | exact hvτ1 | assumption | fail | fail) (by first | exact hcFR_τ1 | assumption | fail | fail) (by first | exact hcRR_τ1 | assumption | fail | fail) (Nat.lt_succ_self _)
      ·
        refine g_aload_n h dX12_laysRoutes_8 0 rfl ?_
        refine g_bipush h dX12_laysRoutes_9 (by decide) ?_
        refine g_iload_n h dX12_laysRoutes_11 1 rfl ?_
        refine g_iaddN h dX12_laysRoutes_12  ?_
        refine g_cvpi (rest := []) h (r_of hW (64 + i) μ (by assumption) (by omega)) lX12_of mX12_61 (Nat.lt_of_lt_of_le (by decide) (Nat.le_refl _)) (by decide) sc_0 rfl rfl rfl rfl dX12_laysRoutes_13 ?_
        refine g_iload_n h dX12_laysRoutes_16 2 rfl ?_
        refine g_cspi (rest := []) h (r_has hW (μ (64 + i)) k (by omega)) lX12_has mX12_65 (Nat.lt_of_lt_of_le (by decide) (Nat.le_refl _)) (by decide) rfl rfl rfl dX12_laysRoutes_17 ?_
        refine g_istore_n (L' := [(0, .ref (w.1 0)), (1, .int (nI i)), (2, .int (nI k)), (3, .int (b2i (tb (μ (64 + i)) k)))]) h dX12_laysRoutes_20 rfl (by decide) rfl ?_
        refine g_aload_n h dX12_laysRoutes_21 0 rfl ?_
        refine g_getr h dX12_laysRoutes_22 gX12_42 sc_0 rfl ?_
        refine g_iload_n h dX12_laysRoutes_25 2 rfl ?_
        refine g_iload_n h dX12_laysRoutes_26 3 rfl ?_
        refine g_ifB_eq h dX12_laysRoutes_27 (fun c27 => ?_) (fun c27 => ?_)
        ·
          refine g_iconst h dX12_laysRoutes_34 (by decide) ?_
          refine g_iast h dX12_laysRoutes_35 sc_9 (by omega) ?_
          refine g_nm (fun σa eσa => ?_)
          have eσa : σa = upd (τ1) (5150 + k) (nI 0) := eσa
          have hcFR_σa : ∀ a, (a < 5150 ∨ 5168 ≤ a) → σa a = σ a := by intro a ha; exact Eq.trans (b := (τ1) a) (by rw [eσa, upd_ne (by first | omega | (simp only [vb] at *; omega))]) (hcFR_τ1 a ha)
          have hvσa : vw 0 σa = μ := by rw [eσa, vw_out (by omega)]; first | exact hvτ1 | assumption
          refine g_aload_n h dX12_laysRoutes_36 0 rfl ?_
          refine g_getr h dX12_laysRoutes_37 gX12_45 sc_0 rfl ?_
          refine g_iload_n h dX12_laysRoutes_40 2 rfl ?_
          refine g_iload_n h dX12_laysRoutes_41 3 rfl ?_
          refine g_ifB_eq h dX12_laysRoutes_42 (fun c42 => ?_) (fun c42 => absurd (c27.symm.trans c42) (by decide))
          refine g_iconstv h dX12_laysRoutes_49 (v := (-1)) (by decide) ?_
          refine g_iast h dX12_laysRoutes_50 sc_10 (by omega) ?_
          refine g_nm (fun σb eσb => ?_)
          have eσb : σb = upd σa (5160 + k) (-1) := eσb
          have hcFR_σb : ∀ a, (a < 5150 ∨ 5168 ≤ a) → σb a = σ a := by intro a ha; exact Eq.trans (b := σa a) (by rw [eσb, upd_ne (by first | omega | (simp only [vb] at *; omega))]) (hcFR_σa a ha)
          have hvσb : vw 0 σb = μ := by rw [eσb, vw_out (by omega)]; first | exact hvσa | assumption
          refine g_iincN (b := 1) (L' := [(0, .ref (w.1 0)), (1, .int (nI i)), (2, .int (nI (k + 1))), (3, .int (b2i (tb (μ (64 + i)) k)))]) h dX12_laysRoutes_51 2 rfl rfl (by decide) (by decide) rfl ?_
          refine g_goto h dX12_laysRoutes_54 ?_
          exact g_sub [0, 1, 2] rfl (ih2 (k + 1) σb (by omega) (by first | exact RZ.more hz (by omega) eσa eσb (r0_t c27).1 (r0_t c27).2 | exact RZ.more hz (by omega) eσa eσb (r0_f c27).1 (r0_f c27).2 | fail | fail) (by first | exact hvσb | assumption | fail | fail) (by first | exact hcFR_σb | assumption | fail | fail) (by omega))
        ·
          refine g_iconst h dX12_laysRoutes_30 (by decide) ?_
          refine g_goto h dX12_laysRoutes_31 ?_
          refine g_iast h dX12_laysRoutes_35 sc_9 (by omega) ?_
          refine g_nm (fun σa eσa => ?_)
          have eσa : σa = upd (τ1) (5150 + k) (nI 1) := eσa
          have hcFR_σa : ∀ a, (a < 5150 ∨ 5168 ≤ a) → σa a = σ a := by intro a ha; exact Eq.trans (b := (τ1) a) (by rw [eσa, upd_ne (by first | omega | (simp only [vb] at *; omega))]) (hcFR_τ1 a ha)
          have hvσa : vw 0 σa = μ := by rw [eσa, vw_out (by omega)]; first | exact hvτ1 | assumption
          refine g_aload_n h dX12_laysRoutes_36 0 rfl ?_
          refine g_getr h dX12_laysRoutes_37 gX12_45 sc_0 rfl ?_
          refine g_iload_n h dX12_laysRoutes_40 2 rfl ?_
          refine g_iload_n h dX12_laysRoutes_41 3 rfl ?_
          refine g_ifB_eq h dX12_laysRoutes_42 (fun c42 => absurd (c27.symm.trans c42) (by decide)) (fun c42 => ?_)
          refine g_iload_n h dX12_laysRoutes_45 2 rfl ?_
          refine g_goto h dX12_laysRoutes_46 ?_
          refine g_iast h dX12_laysRoutes_50 sc_10 (by omega) ?_
          refine g_nm (fun σb eσb => ?_)
          have eσb : σb = upd σa (5160 + k) (nI k) := eσb
          have hcFR_σb : ∀ a, (a < 5150 ∨ 5168 ≤ a) → σb a = σ a := by intro a ha; exact Eq.trans (b := σa a) (by rw [eσb, upd_ne (by first | omega | (simp only [vb] at *; omega))]) (hcFR_σa a ha)
          have hvσb : vw 0 σb = μ := by rw [eσb, vw_out (by omega)]; first | exact hvσa | assumption
          refine g_iincN (b := 1) (L' := [(0, .ref (w.1 0)), (1, .int (nI i)), (2, .int (nI (k + 1))), (3, .int (b2i (tb (μ (64 + i)) k)))]) h dX12_laysRoutes_51 2 rfl rfl (by decide) (by decide) rfl ?_
          refine g_goto h dX12_laysRoutes_54 ?_
          exact g_sub [0, 1, 2] rfl (ih2 (k + 1) σb (by omega) (by first | exact RZ.more hz (by omega) eσa eσb (r0_t c27).1 (r0_t c27).2 | exact RZ.more hz (by omega) eσa eσb (r0_f c27).1 (r0_f c27).2 | fail | fail) (by first | exact hvσb | assumption | fail | fail) (by first | exact hcFR_σb | assumption | fail | fail) (by omega))
  exact lp2 (_) 0 σ (by omega) (by intro y hy; omega) (by first | exact hv | assumption | fail | fail) (by first | exact hcFR_σ | assumption | fail | fail) (Nat.lt_succ_self _)
