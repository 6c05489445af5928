/-! who is busy: gone through, and been at -/
def cz (z : Nat) (gn : Nat → Nat) (q : Nat) : Nat := if gn (q + 1) = z then 1 else 0
theorem cz_le {z : Nat} {gn : Nat → Nat} {q : Nat} : cz z gn q ≤ 1 := if1 _
theorem cz_ru {z km n : Nat} {gn : Nat → Nat} (k : Nat) (h : k < km) : sN (cz z (ru gn km n)) k = sN (cz z gn) k :=
  sN_congr fun q hq => by
    unfold cz
    rw [ru_ne (by omega)]
theorem stp_lt {μ : Nat → Int32} (hI : MI μ) {to x n : Nat} (h : stp μ to x = some n) : n < 8 := by
  have h8 := mi_8 hI
  unfold stp at h
  split at h
  · rename_i c
    simp only [Bool.and_eq_true] at c
    have e : rx (rts μ x 6) to = n := Option.some.inj h
    rw [e] at c
    by_cases q : n < nN μ
    · omega
    · rw [ms_on hI n (by omega)] at c
      exact absurd c.1.2 (by decide)
  · cases h
theorem goR_cnt {μ : Nat → Int32} {to z : Nat} (hI : MI μ) : ∀ f km gn been, 1 ≤ km → sN (cz z gn) (km - 1) = (tb been z).toNat → (goR μ to f km gn been).1 = 0 → sN (cz z (goR μ to f km gn been).2.2.1) ((goR μ to f km gn been).2.1 - 2) = (tb (goR μ to f km gn been).2.2.2 z).toNat
  | 0, km, gn, been => fun _ _ h => by rw [goR] at h; cases h
  | f + 1, km, gn, been => fun h1 hs h => by
    rw [goR] at h ⊢
    cases hst : stp μ to (gn (km - 1)) with
    | none => rw [hst] at h; cases h
    | some n =>
      have hn := stp_lt hI hst
      rw [hst] at h
      dsimp only at h ⊢
      by_cases e : n = to
      · rw [if_pos e]
        show sN (cz z (ru gn km n)) (km + 1 - 2) = (tb been z).toNat
        rw [show km + 1 - 2 = km - 1 from by omega, cz_ru (km - 1) (by omega)]
        exact hs
      · rw [if_neg e] at h ⊢
        cases b : tb been n with
        | true => rw [b, if_pos rfl] at h; cases h
        | false =>
          rw [b, if_neg (by decide)] at h
          rw [if_neg (by decide)]
          refine goR_cnt hI f (km + 1) (ru gn km n) (been ||| bt1 n) (by omega) ?_ h
          rw [show km + 1 - 1 = (km - 1) + 1 from by omega]
          show sN (cz z (ru gn km n)) (km - 1) + cz z (ru gn km n) (km - 1) = _
          rw [cz_ru (km - 1) (by omega), hs, tb_or, tb_bt1 (by omega)]
          unfold cz
          rw [show km - 1 + 1 = km from by omega, ru_eq]
          by_cases ez : n = z
          · subst ez
            rw [b, if_pos rfl]
            simp
          · rw [if_neg ez, decide_eq_false (fun q => ez q.symm), Bool.or_false]
            rfl
theorem gnw_cnt {μ : Nat → Int32} {fr to z : Nat} (hI : MI μ) (hf : fr < 8) (hz : z ≠ fr) (h : (gnw μ fr to).1 = 0) : sN (cz z (gnw μ fr to).2.2.1) ((gnw μ fr to).2.1 - 2) = (tb (gnw μ fr to).2.2.2 z).toNat := by
  refine goR_cnt hI 8 1 _ _ (Nat.le_refl _) ?_ h
  rw [tb_bt1 (by omega), decide_eq_false hz]
  rfl
def bzB (μ : Nat → Int32) (z a b : Nat) : Nat := if (!decide (a = b) && !decide (a = z) && !decide (b = z) && (tb (μ 1) a && tb (μ 1) b) && decide ((gnw μ a b).1 = 0)) = true then (tb (gnw μ a b).2.2.2 z).toNat else 0
theorem bz_le {μ : Nat → Int32} {z a b : Nat} : bzB μ z a b ≤ 1 := by
  unfold bzB
  split
  · cases tb (gnw μ a b).2.2.2 z <;> decide
  · decide
def v_bsy (μ : Nat → Int32) (z : Nat) : Nat := sN (fun a => sN (bzB μ z a) (nN μ)) (nN μ)
theorem bz_64 {μ : Nat → Int32} {wt : Nat} (hI : MI μ) : sN (fun c => bzB μ wt (c / 8) (c % 8)) 64 = v_bsy μ wt := by
  have h8 := mi_8 hI
  have z : ∀ a b, (nN μ ≤ a ∨ nN μ ≤ b) → bzB μ wt a b = 0 := fun a b h => by
    unfold bzB
    rcases h with h | h
    · rw [ms_on hI a h]; simp
    · rw [ms_on hI b h]; simp
  have := sN_64 (f := bzB μ wt) 8 (Nat.le_refl _)
  rw [show 64 = 8 * 8 from rfl, this]
  unfold v_bsy
  have e1 : ∀ a, sN (bzB μ wt a) 8 = sN (bzB μ wt a) (nN μ) := fun a => by
    have := sN_more (f := bzB μ wt a) (m := nN μ) (8 - nN μ) (fun x h1 _ => z a x (Or.inr h1))
    rwa [show nN μ + (8 - nN μ) = 8 from by omega] at this
  have := sN_more (f := fun a => sN (bzB μ wt a) (nN μ)) (m := nN μ) (8 - nN μ) (fun x h1 _ => sN_0 (fun y _ => z x y (Or.inl h1)))
  rw [show nN μ + (8 - nN μ) = 8 from by omega] at this
  rw [sN_congr (fun a _ => e1 a), this]
theorem bz_z {μ : Nat → Int32} {z a b : Nat} (h : a = b ∨ a = z ∨ b = z ∨ tb (μ 1) a = false ∨ tb (μ 1) b = false ∨ (gnw μ a b).1 ≠ 0) : bzB μ z a b = 0 := by
  unfold bzB
  rcases h with h | h | h | h | h | h
  · rw [decide_eq_true h]; simp
  · rw [decide_eq_true h]; simp
  · rw [decide_eq_true h]; simp
  · rw [h]; simp
  · rw [h]; simp
  · rw [decide_eq_false h]; simp
theorem bz_y {μ : Nat → Int32} {z a b : Nat} (h1 : a ≠ b) (h2 : a ≠ z) (h3 : b ≠ z) (h4 : tb (μ 1) a = true) (h5 : tb (μ 1) b = true) (h6 : (gnw μ a b).1 = 0) : bzB μ z a b = (tb (gnw μ a b).2.2.2 z).toNat := by
  unfold bzB
  rw [if_pos (by simp [h1, h2, h3, h4, h5, h6])]

theorem cz_y {n3 n2 q z : Nat} {gn : Nat → Nat} (h : n3 = n2 + sN (cz z gn) (q - 1)) (h1 : 1 ≤ q) (e : gn q = z) : n3 + 1 = n2 + sN (cz z gn) (q + 1 - 1) := by
  rw [show q + 1 - 1 = (q - 1) + 1 from by omega, sN, h]
  have : cz z gn (q - 1) = 1 := by
    unfold cz
    rw [show q - 1 + 1 = q from by omega, if_pos e]
  omega
theorem cz_n {n3 n2 q z : Nat} {gn : Nat → Nat} (h : n3 = n2 + sN (cz z gn) (q - 1)) (h1 : 1 ≤ q) (e : gn q ≠ z) : n3 + 0 = n2 + sN (cz z gn) (q + 1 - 1) := by
  rw [show q + 1 - 1 = (q - 1) + 1 from by omega, sN, h]
  have : cz z gn (q - 1) = 0 := by
    unfold cz
    rw [show q - 1 + 1 = q from by omega, if_neg e]
  omega
theorem bz_end {μ : Nat → Int32} {n n2 n3 q z a b : Nat} (hI : MI μ) (h : n2 = n + sN (bzB μ z a) b) (h3 : n3 = n2 + sN (cz z (gnw μ a b).2.2.1) (q - 1)) (hq : q - 1 = (gnw μ a b).2.1 - 2) (ha : a < 8) (h1 : a ≠ b) (h2 : a ≠ z) (h4 : b ≠ z) (h5 : tb (μ 1) a = true) (h6 : tb (μ 1) b = true) (h0 : (gnw μ a b).1 = 0) : n3 = n + sN (bzB μ z a) (b + 1) := by
  have e := bz_y h1 h2 h4 h5 h6 h0
  rw [← gnw_cnt hI ha (fun e => h2 e.symm) h0] at e
  show n3 = n + (sN (bzB μ z a) b + bzB μ z a b)
  rw [e, h3, h, hq]
  omega

set_option maxRecDepth 100000 in
set_option maxHeartbeats 16000000 in
theorem q_busy {l : Launch} {w : Wd} (hW : Wi w) {σ : Mem} (k : Int32)  (μ : Nat → Int32) (hv : vw 0 σ = μ) (hI : MI μ) : MC l w qX12_busy 6 [.ref (w.1 0), .int k] σ (some (.int (an (ns μ k) (nI (v_bsy μ (toN k)))))) (fun σ' => (σ' 4000 = (nI (ns μ k))) ∧ (∀ a, ((a < 4900 ∨ 6000 ≤ a) ∧ a ≠ 4000) → σ' a = σ a)) := by
  refine MC.of hW (by decide +kernel) (Nat.le_of_ble_eq_true rfl) (fun X h hQ hnm => ?_)
  have h : Fx X w cX12_busy 6 RX12 6 := h
  have hQ : Qx X w (some .int) (some (.int (an (ns μ k) (nI (v_bsy μ (toN k)))))) (fun σ' => (σ' 4000 = (nI (ns μ k))) ∧ (∀ a, ((a < 4900 ∨ 6000 ≤ a) ∧ a ≠ 4000) → σ' a = σ a)) := hQ
  have hN8 := mi_8 hI
  have hcFR_σ : ∀ a, ((a < 4900 ∨ 6000 ≤ a) ∧ a ≠ 4000) → σ a = σ a := fun _ _ => rfl
  show G X w 6 0 [(0, .ref (w.1 0)), (1, .int k)] [] σ
  refine g_aload_n h dX12_busy_0 0 rfl ?_
  refine g_iload_n h dX12_busy_1 1 rfl ?_
  refine g_cvpi (rest := []) h (r_isNode hW k μ (by first | exact hv | assumption | fail)) lX12_isNode mX12_287 (Nat.lt_of_lt_of_le (by decide) (Nat.le_refl _)) (by decide) sc_0 rfl rfl rfl rfl dX12_busy_2 ?_
  refine g_ifB_ne h dX12_busy_5 (fun c5 => ?_) (fun c5 => ?_)
  ·
    obtain ⟨ek, hk9⟩ := nB_N hI (show nB μ k = true from c5)
    rw [ek]
    show G X w 6 14 [(0, .ref (w.1 0)), (1, .int (nI (toN k)))] [] σ
    refine g_iconst h dX12_busy_14 (by decide) ?_
    refine g_istore_n (L' := [(0, .ref (w.1 0)), (1, .int (nI (toN k))), (2, .int (nI 0))]) h dX12_busy_15 rfl (by decide) rfl ?_
    refine g_iconst h dX12_busy_16 (by decide) ?_
    refine g_istore_n (L' := [(0, .ref (w.1 0)), (1, .int (nI (toN k))), (2, .int (nI 0)), (3, .int (nI 0))]) h dX12_busy_17 rfl (by decide) rfl ?_
    have lp18 : ∀ (k9 : Nat) (n : Nat) (a : Nat) (τ : Mem), (a ≤ nN μ) → (n = sN (fun a => sN (bzB μ (toN k) a) (nN μ)) a) → (vw 0 τ = μ) → (∀ a, ((a < 4900 ∨ 6000 ≤ a) ∧ a ≠ 4000) → τ a = σ a) → nN μ - a < k9 → G X w 6 18 [(0, .ref (w.1 0)), (1, .int (nI (toN k))), (2, .int (nI n)), (3, .int (nI a))] [] (τ) := by
      intro k9
      induction k9 with
      | zero => intro n a τ ha hn hvτ hcFR_τ hm9; exact absurd hm9 (Nat.not_lt_zero _)
      | succ k9 ih18 =>
        intro n a τ ha hn hvτ hcFR_τ hm18
        refine g_iload_n h dX12_busy_18 3 rfl ?_
        refine g_aload_n h dX12_busy_19 0 rfl ?_
        refine g_iconst h dX12_busy_20 (by decide) ?_
        refine g_cvpi (rest := [.int (nI a)]) h (r_of hW 0 μ (by assumption) (by omega)) lX12_of mX12_61 (Nat.lt_of_lt_of_le (by decide) (Nat.le_refl _)) (by decide) sc_0 rfl rfl rfl rfl dX12_busy_21 ?_
        refine g_top (y := nI (nN μ)) (mi_0 (by assumption)) ?_
        refine g_icmpN_ge h dX12_busy_24 (by omega) (by omega) (fun c24 => ?_) (fun c24 => ?_)
        ·
          refine g_aload_n h dX12_busy_138 0 rfl ?_
          refine g_iload_n h dX12_busy_139 2 rfl ?_
          refine g_cvi (rest := []) h (r_gives hW (nI n) ) lX12_gives mX12_281 (Nat.lt_of_lt_of_le (by decide) (Nat.le_refl _)) (by decide) sc_0 rfl rfl rfl rfl dX12_busy_140 (fun σ_1 eσ_1 => ?_)
          have eσ_1_a : σ_1 = upd (τ) 4000 (nI 0) := eσ_1
          have ht4000_σ_1 : σ_1 4000 = (nI 0) := by rw [eσ_1_a]; exact upd_eq
          have hcFR_σ_1 : ∀ a, ((a < 4900 ∨ 6000 ≤ a) ∧ a ≠ 4000) → σ_1 a = σ a := by intro a ha; exact Eq.trans (b := (τ) a) (by rw [eσ_1_a, upd_ne (by first | omega | (simp only [vb] at *; omega))]) (hcFR_τ a ha)
          have hvσ_1 : vw 0 σ_1 = μ := by rw [eσ_1_a, vw_out (by omega)]; first | exact hvτ | assumption
          exact g_iret h hQ dX12_busy_143 (congrArg (fun z => some (Value.int z)) (show (an (ns μ k) (nI (v_bsy μ (toN k)))) = (nI n) by first | exact an_yes (by first | rfl | (simp [fo, rg, ns, nB, ps, gst, ofS, offB, c5, c24]; done) | (simp [fo, rg, ns, nB, ps, gst, ofS, offB, c5, c24]; omega)) (by rw [hn, show a = nN μ from by omega]; rfl) | exact an_no (k := 0) (by first | rfl | (simp [fo, rg, ns, nB, ps, gst, ofS, offB, c5, c24]; done) | (simp [fo, rg, ns, nB, ps, gst, ofS, offB, c5, c24]; omega)) (by first | decide | omega | assumption | exact nb1 (by assumption)) | fail)) (by exact ⟨(by first | exact tk_eq (k := 0) (by first | rfl | (simp [fo, rg, ns, nB, ps, gst, ofS, offB, c5, c24]; done) | (simp [fo, rg, ns, nB, ps, gst, ofS, offB, c5, c24]; omega)) ht4000_σ_1 | exact tk_eq (k := 0) (by first | rfl | (simp [fo, rg, ns, nB, ps, gst, ofS, offB, c5, c24]; done) | (simp [fo, rg, ns, nB, ps, gst, ofS, offB, c5, c24]; omega)) ht4000_σ_1 | fail), (by exact hcFR_σ_1)⟩)
        ·
          refine g_iconst h dX12_busy_27 (by decide) ?_
          refine g_istore (L' := [(0, .ref (w.1 0)), (1, .int (nI (toN k))), (2, .int (nI n)), (3, .int (nI a)), (4, .int (nI 0))]) h dX12_busy_28 rfl (by decide) rfl ?_
          have lp30 : ∀ (k9 : Nat) (n2 : Nat) (b : Nat) (τ2 : Mem), (b ≤ nN μ) → (n2 = n + sN (bzB μ (toN k) a) b) → (vw 0 τ2 = μ) → (∀ a, ((a < 4900 ∨ 6000 ≤ a) ∧ a ≠ 4000) → τ2 a = σ a) → nN μ - b < k9 → G X w 6 30 [(0, .ref (w.1 0)), (1, .int (nI (toN k))), (2, .int (nI n2)), (3, .int (nI a)), (4, .int (nI b))] [] (τ2) := by
            intro k9
            induction k9 with
            | zero => intro n2 b τ2 hb hn2 hvτ2 hcFR_τ2 hm9; exact absurd hm9 (Nat.not_lt_zero _)
            | succ k9 ih30 =>
              intro n2 b τ2 hb hn2 hvτ2 hcFR_τ2 hm30
              refine g_iload h dX12_busy_30 4 rfl ?_
              refine g_aload_n h dX12_busy_32 0 rfl ?_
              refine g_iconst h dX12_busy_33 (by decide) ?_
              refine g_cvpi (rest := [.int (nI b)]) h (r_of hW 0 μ (by assumption) (by omega)) lX12_of mX12_61 (Nat.lt_of_lt_of_le (by decide) (Nat.le_refl _)) (by decide) sc_0 rfl rfl rfl rfl dX12_busy_34 ?_
              refine g_top (y := nI (nN μ)) (mi_0 (by assumption)) ?_
              refine g_icmpN_ge h dX12_busy_37 (by omega) (by omega) (fun c37 => ?_) (fun c37 => ?_)
              ·
                refine g_iincN (b := 1) (L' := [(0, .ref (w.1 0)), (1, .int (nI (toN k))), (2, .int (nI n2)), (3, .int (nI (a + 1))), (4, .int (nI b))]) h dX12_busy_132 3 rfl rfl (by decide) (by decide) rfl ?_
                refine g_goto h dX12_busy_135 ?_
                exact g_sub [0, 1, 2, 3] rfl (ih18 n2 (a + 1) (τ2) (by omega) (by simp only [sN]; rw [hn2, hn, show b = nN μ from by omega]) (by first | exact hvτ2 | assumption | fail | fail) (by first | exact hcFR_τ2 | assumption | fail | fail) (by omega))
              ·
                refine g_iload_n h dX12_busy_40 3 rfl ?_
                refine g_iload h dX12_busy_41 4 rfl ?_
                refine g_icmpN_eq h dX12_busy_43 (by omega) (by omega) (fun c43 => ?_) (fun c43 => ?_)
                ·
                  refine g_iincN (b := 1) (L' := [(0, .ref (w.1 0)), (1, .int (nI (toN k))), (2, .int (nI n2)), (3, .int (nI a)), (4, .int (nI (b + 1)))]) h dX12_busy_126 4 rfl rfl (by decide) (by decide) rfl ?_
                  refine g_goto h dX12_busy_129 ?_
                  exact ih30 n2 (b + 1) (τ2) (by omega) (by first | exact as_0 hn2 (bz_z (Or.inl c43)) | exact as_0 hn2 (bz_z (Or.inr (Or.inl c48))) | exact as_0 hn2 (bz_z (Or.inr (Or.inr (Or.inl c54)))) | exact as_0 hn2 (bz_z (Or.inr (Or.inr (Or.inr (Or.inl c62))))) | exact as_0 hn2 (bz_z (Or.inr (Or.inr (Or.inr (Or.inr (Or.inl c71)))))) | exact as_0 hn2 (bz_z (Or.inr (Or.inr (Or.inr (Or.inr (Or.inr c81)))))) | exact bz_end hI hn2 hn3 (by omega) (by omega) c43 c48 c54 c62 c71 c81 | fail | fail) (by first | exact hvτ2 | assumption | fail | fail) (by first | exact hcFR_τ2 | assumption | fail | fail) (by omega)
                ·
                  refine g_iload_n h dX12_busy_46 3 rfl ?_
                  refine g_iload_n h dX12_busy_47 1 rfl ?_
                  refine g_icmpN_eq h dX12_busy_48 (by omega) (by omega) (fun c48 => ?_) (fun c48 => ?_)
                  ·
                    refine g_iincN (b := 1) (L' := [(0, .ref (w.1 0)), (1, .int (nI (toN k))), (2, .int (nI n2)), (3, .int (nI a)), (4, .int (nI (b + 1)))]) h dX12_busy_126 4 rfl rfl (by decide) (by decide) rfl ?_
                    refine g_goto h dX12_busy_129 ?_
                    exact ih30 n2 (b + 1) (τ2) (by omega) (by first | exact as_0 hn2 (bz_z (Or.inl c43)) | exact as_0 hn2 (bz_z (Or.inr (Or.inl c48))) | exact as_0 hn2 (bz_z (Or.inr (Or.inr (Or.inl c54)))) | exact as_0 hn2 (bz_z (Or.inr (Or.inr (Or.inr (Or.inl c62))))) | exact as_0 hn2 (bz_z (Or.inr (Or.inr (Or.inr (Or.inr (Or.inl c71)))))) | exact as_0 hn2 (bz_z (Or.inr (Or.inr (Or.inr (Or.inr (Or.inr c81)))))) | exact bz_end hI hn2 hn3 (by omega) (by omega) c43 c48 c54 c62 c71 c81 | fail | fail) (by first | exact hvτ2 | assumption | fail | fail) (by first | exact hcFR_τ2 | assumption | fail | fail) (by omega)
                  ·
                    refine g_iload h dX12_busy_51 4 rfl ?_
                    refine g_iload_n h dX12_busy_53 1 rfl ?_
                    refine g_icmpN_eq h dX12_busy_54 (by omega) (by omega) (fun c54 => ?_) (fun c54 => ?_)
                    ·
                      refine g_iincN (b := 1) (L' := [(0, .ref (w.1 0)), (1, .int (nI (toN k))), (2, .int (nI n2)), (3, .int (nI a)), (4, .int (nI (b + 1)))]) h dX12_busy_126 4 rfl rfl (by decide) (by decide) rfl ?_
                      refine g_goto h dX12_busy_129 ?_
                      exact ih30 n2 (b + 1) (τ2) (by omega) (by first | exact as_0 hn2 (bz_z (Or.inl c43)) | exact as_0 hn2 (bz_z (Or.inr (Or.inl c48))) | exact as_0 hn2 (bz_z (Or.inr (Or.inr (Or.inl c54)))) | exact as_0 hn2 (bz_z (Or.inr (Or.inr (Or.inr (Or.inl c62))))) | exact as_0 hn2 (bz_z (Or.inr (Or.inr (Or.inr (Or.inr (Or.inl c71)))))) | exact as_0 hn2 (bz_z (Or.inr (Or.inr (Or.inr (Or.inr (Or.inr c81)))))) | exact bz_end hI hn2 hn3 (by omega) (by omega) c43 c48 c54 c62 c71 c81 | fail | fail) (by first | exact hvτ2 | assumption | fail | fail) (by first | exact hcFR_τ2 | assumption | fail | fail) (by omega)
                    ·
                      refine g_aload_n h dX12_busy_57 0 rfl ?_
                      refine g_iload_n h dX12_busy_58 3 rfl ?_
                      refine g_cvpi (rest := []) h (r_isOn hW a μ (by assumption) (by omega)) lX12_isOn mX12_114 (Nat.lt_of_lt_of_le (by decide) (Nat.le_refl _)) (by decide) sc_0 rfl rfl rfl rfl dX12_busy_59 ?_
                      refine g_ifB_eq h dX12_busy_62 (fun c62 => ?_) (fun c62 => ?_)
                      ·
                        refine g_iincN (b := 1) (L' := [(0, .ref (w.1 0)), (1, .int (nI (toN k))), (2, .int (nI n2)), (3, .int (nI a)), (4, .int (nI (b + 1)))]) h dX12_busy_126 4 rfl rfl (by decide) (by decide) rfl ?_
                        refine g_goto h dX12_busy_129 ?_
                        exact ih30 n2 (b + 1) (τ2) (by omega) (by first | exact as_0 hn2 (bz_z (Or.inl c43)) | exact as_0 hn2 (bz_z (Or.inr (Or.inl c48))) | exact as_0 hn2 (bz_z (Or.inr (Or.inr (Or.inl c54)))) | exact as_0 hn2 (bz_z (Or.inr (Or.inr (Or.inr (Or.inl c62))))) | exact as_0 hn2 (bz_z (Or.inr (Or.inr (Or.inr (Or.inr (Or.inl c71)))))) | exact as_0 hn2 (bz_z (Or.inr (Or.inr (Or.inr (Or.inr (Or.inr c81)))))) | exact bz_end hI hn2 hn3 (by omega) (by omega) c43 c48 c54 c62 c71 c81 | fail | fail) (by first | exact hvτ2 | assumption | fail | fail) (by first | exact hcFR_τ2 | assumption | fail | fail) (by omega)
                      ·
                        refine g_aload_n h dX12_busy_65 0 rfl ?_
                        refine g_iload h dX12_busy_66 4 rfl ?_
                        refine g_cvpi (rest := []) h (r_isOn hW b μ (by assumption) (by omega)) lX12_isOn mX12_114 (Nat.lt_of_lt_of_le (by decide) (Nat.le_refl _)) (by decide) sc_0 rfl rfl rfl rfl dX12_busy_68 ?_
                        refine g_ifB_eq h dX12_busy_71 (fun c71 => ?_) (fun c71 => ?_)
                        ·
                          refine g_iincN (b := 1) (L' := [(0, .ref (w.1 0)), (1, .int (nI (toN k))), (2, .int (nI n2)), (3, .int (nI a)), (4, .int (nI (b + 1)))]) h dX12_busy_126 4 rfl rfl (by decide) (by decide) rfl ?_
                          refine g_goto h dX12_busy_129 ?_
                          exact ih30 n2 (b + 1) (τ2) (by omega) (by first | exact as_0 hn2 (bz_z (Or.inl c43)) | exact as_0 hn2 (bz_z (Or.inr (Or.inl c48))) | exact as_0 hn2 (bz_z (Or.inr (Or.inr (Or.inl c54)))) | exact as_0 hn2 (bz_z (Or.inr (Or.inr (Or.inr (Or.inl c62))))) | exact as_0 hn2 (bz_z (Or.inr (Or.inr (Or.inr (Or.inr (Or.inl c71)))))) | exact as_0 hn2 (bz_z (Or.inr (Or.inr (Or.inr (Or.inr (Or.inr c81)))))) | exact bz_end hI hn2 hn3 (by omega) (by omega) c43 c48 c54 c62 c71 c81 | fail | fail) (by first | exact hvτ2 | assumption | fail | fail) (by first | exact hcFR_τ2 | assumption | fail | fail) (by omega)
                        ·
                          refine g_aload_n h dX12_busy_74 0 rfl ?_
                          refine g_iload_n h dX12_busy_75 3 rfl ?_
                          refine g_iload h dX12_busy_76 4 rfl ?_
                          refine g_cvi (rest := []) h (r_going hW a b μ (by first | exact hvτ2 | assumption | fail) (by assumption) (by omega) (by omega) (by omega)) lX12_going mX12_318 (Nat.lt_of_lt_of_le (by decide) (Nat.le_refl _)) (by decide) sc_0 rfl rfl rfl rfl dX12_busy_78 (fun σ_2 eσ_2 => ?_)
                          obtain ⟨eσ_2_a, eσ_2_b, eσ_2_c⟩ := eσ_2
                          have eσ_2_a : σ_2 5011 = (nI ((gnw μ a b).2.1)) := eσ_2_a
                          have eσ_2_b : GN 5170 σ_2 (gnw μ a b).2.1 (gnw μ a b).2.2.1 := eσ_2_b
                          have eσ_2_c : ∀ a, ((a < 5150 ∨ 5180 ≤ a) ∧ a ≠ 5011) → σ_2 a = (τ2) a := eσ_2_c
                          have ht5011_σ_2 : σ_2 5011 = (nI ((gnw μ a b).2.1)) := eσ_2_a
                          have hcFR_σ_2 : ∀ a, ((a < 4900 ∨ 6000 ≤ a) ∧ a ≠ 4000) → σ_2 a = σ a := by intro a ha; exact Eq.trans (b := (τ2) a) (eσ_2_c a (by first | omega | (simp only [vb] at *; omega))) (hcFR_τ2 a ha)
                          have hcGN_σ_2 : GN 5170 σ_2 (gnw μ a b).2.1 (gnw μ a b).2.2.1 := eσ_2_b
                          have hvσ_2 : vw 0 σ_2 = μ := by rw [vw_fr (σ := (τ2)) (fun j _ _ => eσ_2_c _ (by first | omega | (simp only [vb] at *; omega)))]; first | exact hvτ2 | assumption
                          have hgh := gnw_how (μ := μ) (fr := a) (to := b)
                          have hg1 := gnw_1 (μ := μ) (fr := a) (to := b)
                          have hg9 := gnw_le (μ := μ) (fr := a) (to := b)
                          have hgl := gnw_lt (μ := μ) (fr := a) (to := b) hI (by omega)
                          refine g_ifN_eq h dX12_busy_81 (by omega) (fun c81 => ?_) (fun c81 => ?_)
                          ·
                            refine g_iconst h dX12_busy_87 (by decide) ?_
                            refine g_istore (L' := [(0, .ref (w.1 0)), (1, .int (nI (toN k))), (2, .int (nI n2)), (3, .int (nI a)), (4, .int (nI b)), (5, .int (nI 1))]) h dX12_busy_88 rfl (by decide) rfl ?_
                            have lp90 : ∀ (k9 : Nat) (n3 : Nat) (q : Nat), (1 ≤ q) → (q - 1 ≤ (gnw μ a b).2.1 - 2) → (n3 = n2 + sN (cz (toN k) (gnw μ a b).2.2.1) (q - 1)) → (gnw μ a b).2.1 - q < k9 → G X w 6 90 [(0, .ref (w.1 0)), (1, .int (nI (toN k))), (2, .int (nI n3)), (3, .int (nI a)), (4, .int (nI b)), (5, .int (nI q))] [] σ_2 := by
                              intro k9
                              induction k9 with
                              | zero => intro n3 q hq hq9 hn3 hm9; exact absurd hm9 (Nat.not_lt_zero _)
                              | succ k9 ih90 =>
                                intro n3 q hq hq9 hn3 hm90
                                refine g_iload h dX12_busy_90 5 rfl ?_
                                refine g_iconst h dX12_busy_92 (by decide) ?_
                                refine g_iaddN h dX12_busy_93  ?_
                                refine g_aload_n h dX12_busy_94 0 rfl ?_
                                refine g_geti h dX12_busy_95 gX12_312 sc_0 rfl ?_
                                refine g_top (y := (nI ((gnw μ a b).2.1))) (by first | exact ht5011_σ_2 | assumption) ?_
                                refine g_icmpN_ge h dX12_busy_98 (by omega) (by omega) (fun c98 => ?_) (fun c98 => ?_)
                                ·
                                  refine g_iincN (b := 1) (L' := [(0, .ref (w.1 0)), (1, .int (nI (toN k))), (2, .int (nI n3)), (3, .int (nI a)), (4, .int (nI (b + 1))), (5, .int (nI q))]) h dX12_busy_126 4 rfl rfl (by decide) (by decide) rfl ?_
                                  refine g_goto h dX12_busy_129 ?_
                                  exact g_sub [0, 1, 2, 3, 4] rfl (ih30 n3 (b + 1) σ_2 (by omega) (by first | exact as_0 hn2 (bz_z (Or.inl c43)) | exact as_0 hn2 (bz_z (Or.inr (Or.inl c48))) | exact as_0 hn2 (bz_z (Or.inr (Or.inr (Or.inl c54)))) | exact as_0 hn2 (bz_z (Or.inr (Or.inr (Or.inr (Or.inl c62))))) | exact as_0 hn2 (bz_z (Or.inr (Or.inr (Or.inr (Or.inr (Or.inl c71)))))) | exact as_0 hn2 (bz_z (Or.inr (Or.inr (Or.inr (Or.inr (Or.inr c81)))))) | exact bz_end hI hn2 hn3 (by omega) (by omega) c43 c48 c54 c62 c71 c81 | fail | fail) (by first | exact hvσ_2 | assumption | fail | fail) (by first | exact hcFR_σ_2 | assumption | fail | fail) (by omega))
                                ·
                                  refine g_iload_n h dX12_busy_101 2 rfl ?_
                                  refine g_aload_n h dX12_busy_102 0 rfl ?_
                                  refine g_getr h dX12_busy_103 gX12_48 sc_0 rfl ?_
                                  refine g_iload h dX12_busy_106 5 rfl ?_
                                  refine g_iald h dX12_busy_108 sc_11 (by omega) ?_
                                  refine g_top (y := (nI ((gnw μ a b).2.2.1 q))) (hcGN_σ_2 q (by omega)) ?_
                                  have hgq := hgl q (by omega)
                                  refine g_iload_n h dX12_busy_109 1 rfl ?_
                                  refine g_icmpN_ne h dX12_busy_110 (by omega) (by omega) (fun c110 => ?_) (fun c110 => ?_)
                                  ·
                                    refine g_iconst h dX12_busy_117 (by decide) ?_
                                    refine g_iaddN h dX12_busy_118  ?_
                                    refine g_istore_n (L' := [(0, .ref (w.1 0)), (1, .int (nI (toN k))), (2, .int (nI (n3 + 0))), (3, .int (nI a)), (4, .int (nI b)), (5, .int (nI q))]) h dX12_busy_119 rfl (by decide) rfl ?_
                                    refine g_iincN (b := 1) (L' := [(0, .ref (w.1 0)), (1, .int (nI (toN k))), (2, .int (nI (n3 + 0))), (3, .int (nI a)), (4, .int (nI b)), (5, .int (nI (q + 1)))]) h dX12_busy_120 5 rfl rfl (by decide) (by decide) rfl ?_
                                    refine g_goto h dX12_busy_123 ?_
                                    exact ih90 (n3 + 0) (q + 1) (by omega) (by omega) (by first | exact cz_y hn3 hq c110 | exact cz_n hn3 hq c110 | fail | fail) (by omega)
                                  ·
                                    refine g_iconst h dX12_busy_113 (by decide) ?_
                                    refine g_goto h dX12_busy_114 ?_
                                    refine g_iaddN h dX12_busy_118  ?_
                                    refine g_istore_n (L' := [(0, .ref (w.1 0)), (1, .int (nI (toN k))), (2, .int (nI (n3 + 1))), (3, .int (nI a)), (4, .int (nI b)), (5, .int (nI q))]) h dX12_busy_119 rfl (by decide) rfl ?_
                                    refine g_iincN (b := 1) (L' := [(0, .ref (w.1 0)), (1, .int (nI (toN k))), (2, .int (nI (n3 + 1))), (3, .int (nI a)), (4, .int (nI b)), (5, .int (nI (q + 1)))]) h dX12_busy_120 5 rfl rfl (by decide) (by decide) rfl ?_
                                    refine g_goto h dX12_busy_123 ?_
                                    exact ih90 (n3 + 1) (q + 1) (by omega) (by omega) (by first | exact cz_y hn3 hq c110 | exact cz_n hn3 hq c110 | fail | fail) (by omega)
                            exact lp90 (_) n2 1 (by omega) (by omega) (by rfl) (Nat.lt_succ_self _)
                          ·
                            refine g_goto h dX12_busy_84 ?_
                            refine g_iincN (b := 1) (L' := [(0, .ref (w.1 0)), (1, .int (nI (toN k))), (2, .int (nI n2)), (3, .int (nI a)), (4, .int (nI (b + 1)))]) h dX12_busy_126 4 rfl rfl (by decide) (by decide) rfl ?_
                            refine g_goto h dX12_busy_129 ?_
                            exact ih30 n2 (b + 1) σ_2 (by omega) (by first | exact as_0 hn2 (bz_z (Or.inl c43)) | exact as_0 hn2 (bz_z (Or.inr (Or.inl c48))) | exact as_0 hn2 (bz_z (Or.inr (Or.inr (Or.inl c54)))) | exact as_0 hn2 (bz_z (Or.inr (Or.inr (Or.inr (Or.inl c62))))) | exact as_0 hn2 (bz_z (Or.inr (Or.inr (Or.inr (Or.inr (Or.inl c71)))))) | exact as_0 hn2 (bz_z (Or.inr (Or.inr (Or.inr (Or.inr (Or.inr c81)))))) | exact bz_end hI hn2 hn3 (by omega) (by omega) c43 c48 c54 c62 c71 c81 | fail | fail) (by first | exact hvσ_2 | assumption | fail | fail) (by first | exact hcFR_σ_2 | assumption | fail | fail) (by omega)
          exact lp30 (_) n 0 (τ) (by omega) (by rfl) (by first | exact hvτ | assumption | fail | fail) (by first | exact hcFR_τ | assumption | fail | fail) (Nat.lt_succ_self _)
    exact lp18 (_) 0 0 σ (by omega) (by rfl) (by first | exact hv | assumption | fail | fail) (by first | exact hcFR_σ | assumption | fail | fail) (Nat.lt_succ_self _)
  ·
    refine g_aload_n h dX12_busy_8 0 rfl ?_
    refine g_iconst h dX12_busy_9 (by decide) ?_
    refine g_cvi (rest := []) h (r_refuse hW (nI 2) ) lX12_refuse mX12_272 (Nat.lt_of_lt_of_le (by decide) (Nat.le_refl _)) (by decide) sc_0 rfl rfl rfl rfl dX12_busy_10 (fun σ_3 eσ_3 => ?_)
    have eσ_3_a : σ_3 = upd σ 4000 (nI 2) := eσ_3
    have ht4000_σ_3 : σ_3 4000 = (nI 2) := by rw [eσ_3_a]; exact upd_eq
    have hcFR_σ_3 : ∀ a, ((a < 4900 ∨ 6000 ≤ a) ∧ a ≠ 4000) → σ_3 a = σ a := by intro a ha; exact Eq.trans (b := σ a) (by rw [eσ_3_a, upd_ne (by first | omega | (simp only [vb] at *; omega))]) (hcFR_σ a ha)
    have hvσ_3 : vw 0 σ_3 = μ := by rw [eσ_3_a, vw_out (by omega)]; first | exact hv | assumption
    exact g_iret h hQ dX12_busy_13 (congrArg (fun z => some (Value.int z)) (show (an (ns μ k) (nI (v_bsy μ (toN k)))) = (-1) by first | exact an_yes (by first | rfl | (simp [fo, rg, ns, nB, ps, gst, ofS, offB, c5]; done) | (simp [fo, rg, ns, nB, ps, gst, ofS, offB, c5]; omega)) (by rw [hn, show a = nN μ from by omega]; rfl) | exact an_no (k := 2) (by first | rfl | (simp [fo, rg, ns, nB, ps, gst, ofS, offB, c5]; done) | (simp [fo, rg, ns, nB, ps, gst, ofS, offB, c5]; omega)) (by first | decide | omega | assumption | exact nb1 (by assumption)) | fail)) (by exact ⟨(by first | exact tk_eq (k := 2) (by first | rfl | (simp [fo, rg, ns, nB, ps, gst, ofS, offB, c5]; done) | (simp [fo, rg, ns, nB, ps, gst, ofS, offB, c5]; omega)) ht4000_σ_3 | exact tk_eq (k := 2) (by first | rfl | (simp [fo, rg, ns, nB, ps, gst, ofS, offB, c5]; done) | (simp [fo, rg, ns, nB, ps, gst, ofS, offB, c5]; omega)) ht4000_σ_3 | fail), (by exact hcFR_σ_3)⟩)

set_option maxRecDepth 100000 in
set_option maxHeartbeats 4000000 in
theorem p_busy {l : Launch} {w : Wd} (hW : Wi w) {σ : Mem} (k : Int32)  (μ : Nat → Int32) (hv : vw (vb 0) σ = μ) (hI : MI μ) : MC l w qX11_busy 4 [.ref (w.1 12), .int k] σ (some (.int (an (ns μ k) (nI (v_bsy μ (toN k)))))) (fun σ' => (σ' 14000 = (nI (ns μ k))) ∧ (∀ a, (a < 14900 ∧ a ≠ 14000) → σ' a = σ a)) := by
  refine MC.of hW (by decide +kernel) (Nat.le_of_ble_eq_true rfl) (fun X h hQ hnm => ?_)
  have h : Fx X w cX11_busy 6 RX11 4 := h
  have hQ : Qx X w (some .int) (some (.int (an (ns μ k) (nI (v_bsy μ (toN k)))))) (fun σ' => (σ' 14000 = (nI (ns μ k))) ∧ (∀ a, (a < 14900 ∧ a ≠ 14000) → σ' a = σ a)) := hQ
  have hN8 := mi_8 hI
  have hcFR_σ : ∀ a, (a < 14900 ∧ a ≠ 14000) → σ a = σ a := fun _ _ => rfl
  show G X w 6 0 [(0, .ref (w.1 12)), (1, .int k)] [] σ
  refine g_aload_n h dX11_busy_0 0 rfl ?_
  refine g_aload_n h dX11_busy_1 0 rfl ?_
  refine g_iload_n h dX11_busy_2 1 rfl ?_
  refine g_cvpi (rest := [.ref (w.1 12)]) h (c_ns hW k μ (by first | exact hv | assumption | fail)) lX11_nodeStatus mX11_159 (Nat.lt_of_lt_of_le (by decide) (Nat.le_refl _)) (by decide) sc_12 rfl rfl rfl rfl dX11_busy_3 ?_
  refine g_cvi (rest := []) h (c_fails hW (ns μ k) (by repeat (first | omega | exact rg_lt | exact ns_lt | exact ps_lt | exact gst_lt | exact ofS_lt | exact if_lt (by decide) (by decide) | apply fo_lt))) lX11_fails mX11_106 (Nat.lt_of_lt_of_le (by decide) (Nat.le_refl _)) (by decide) sc_12 rfl rfl rfl rfl dX11_busy_6 (fun σ_1 eσ_1 => ?_)
  obtain ⟨eσ_1_a, eσ_1_b⟩ := eσ_1
  have eσ_1_a : σ_1 14000 = (nI (ns μ k)) := eσ_1_a
  have eσ_1_b : ∀ a, (a ≠ 14000) → σ_1 a = σ a := eσ_1_b
  have ht14000_σ_1 : σ_1 14000 = (nI (ns μ k)) := eσ_1_a
  have hcFR_σ_1 : ∀ a, (a < 14900 ∧ a ≠ 14000) → σ_1 a = σ a := by intro a ha; exact Eq.trans (b := σ a) (eσ_1_b a (by first | omega | (simp only [vb] at *; omega))) (hcFR_σ a ha)
  have hvσ_1 : vw (vb 0) σ_1 = μ := by rw [vw_fr (σ := σ) (fun j _ _ => eσ_1_b _ (by first | omega | (simp only [vb] at *; omega)))]; first | exact hv | assumption
  refine g_ifB_eq h dX11_busy_9 (fun c9 => ?_) (fun c9 => ?_)
  ·
    have hS0 := nb0 c9
    obtain ⟨ek, hk9⟩ := nB_N hI (ns_0 hS0)
    rw [ek]
    show G X w 6 14 [(0, .ref (w.1 12)), (1, .int (nI (toN k)))] [] σ_1
    refine g_aload_n h dX11_busy_14 0 rfl ?_
    refine g_getr h dX11_busy_15 gX11_51 sc_12 rfl ?_
    refine g_aload_n h dX11_busy_18 0 rfl ?_
    refine g_getr h dX11_busy_19 gX11_23 sc_12 rfl ?_
    refine g_cvv (rest := []) h (c_findAll hW 0 μ (by first | omega | decide | fail) (by first | exact hvσ_1 | assumption | fail) (by assumption)) lX8_findAll mX11_286 (Nat.lt_of_lt_of_le (by decide) (Nat.le_refl _)) (by decide) sc_20 rfl rfl rfl rfl dX11_busy_22 (fun σ_2 eσ_2 => ?_)
    obtain ⟨eσ_2_a, eσ_2_b⟩ := eσ_2
    have eσ_2_a : CA σ_2 μ := eσ_2_a
    have eσ_2_b : ∀ a, (a < 15200 ∨ 15328 ≤ a) → σ_2 a = σ_1 a := eσ_2_b
    have ht14000_σ_2 : σ_2 14000 = (nI (ns μ k)) := by rw [eσ_2_b _ (by first | omega | (simp only [vb] at *; omega))]; first | exact ht14000_σ_1 | assumption
    have hcFR_σ_2 : ∀ a, (a < 14900 ∧ a ≠ 14000) → σ_2 a = σ a := by intro a ha; exact Eq.trans (b := σ_1 a) (eσ_2_b a (by first | omega | (simp only [vb] at *; omega))) (hcFR_σ_1 a ha)
    have hcCA_σ_2 : CA σ_2 μ := eσ_2_a
    have hvσ_2 : vw (vb 0) σ_2 = μ := by rw [vw_fr (σ := σ_1) (fun j _ _ => eσ_2_b _ (by first | omega | (simp only [vb] at *; omega)))]; first | exact hvσ_1 | assumption
    refine g_iconst h dX11_busy_25 (by decide) ?_
    refine g_istore_n (L' := [(0, .ref (w.1 12)), (1, .int (nI (toN k))), (2, .int (nI 0))]) h dX11_busy_26 rfl (by decide) rfl ?_
    refine g_iconst h dX11_busy_27 (by decide) ?_
    refine g_istore_n (L' := [(0, .ref (w.1 12)), (1, .int (nI (toN k))), (2, .int (nI 0)), (3, .int (nI 0))]) h dX11_busy_28 rfl (by decide) rfl ?_
    have lp29 : ∀ (k9 : Nat) (n : Nat) (c : Nat) (τ : Mem), (c ≤ 64) → (n = sN (fun c => bzB μ (toN k) (c / 8) (c % 8)) c) → (vw (vb 0) τ = μ) → (τ 14000 = (nI (ns μ k))) → (∀ a, (a < 14900 ∧ a ≠ 14000) → τ a = σ a) → (CA τ μ) → 64 - c < k9 → G X w 6 29 [(0, .ref (w.1 12)), (1, .int (nI (toN k))), (2, .int (nI n)), (3, .int (nI c))] [] (τ) := by
      intro k9
      induction k9 with
      | zero => intro n c τ hc hn hvτ ht14000_τ hcFR_τ hcCA_τ hm9; exact absurd hm9 (Nat.not_lt_zero _)
      | succ k9 ih29 =>
        intro n c τ hc hn hvτ ht14000_τ hcFR_τ hcCA_τ hm29
        refine g_iload_n h dX11_busy_29 3 rfl ?_
        refine g_bipush h dX11_busy_30 (by decide) ?_
        refine g_icmpN_ge h dX11_busy_32 (by omega) (by omega) (fun c32 => ?_) (fun c32 => ?_)
        ·
          refine g_iload_n h dX11_busy_150 2 rfl ?_
          exact g_iret h hQ dX11_busy_151 (congrArg (fun z => some (Value.int z)) (show (an (ns μ k) (nI (v_bsy μ (toN k)))) = (nI n) by first | exact an_yes (by exact hS0) (by rw [hn, show c = 64 from by omega, bz_64 hI]) | exact an_no (k := (ns μ k)) (by first | rfl | (simp [fo, rg, ns, nB, ps, gst, ofS, offB, c9, c32]; done) | (simp [fo, rg, ns, nB, ps, gst, ofS, offB, c9, c32]; omega)) (by first | decide | omega | assumption | exact nb1 (by assumption)) | fail)) (by exact ⟨(by first | exact tk_eq (k := (ns μ k)) (by first | rfl | (simp [fo, rg, ns, nB, ps, gst, ofS, offB, c9, c32]; done) | (simp [fo, rg, ns, nB, ps, gst, ofS, offB, c9, c32]; omega)) ht14000_τ | exact tk_eq (k := (ns μ k)) (by exact hS0) ht14000_τ | fail), (by exact hcFR_τ)⟩)
        ·
          refine g_iload_n h dX11_busy_35 3 rfl ?_
          refine g_bipush h dX11_busy_36 (by decide) ?_
          refine g_idivN h dX11_busy_38 (by omega) (by omega) (by omega) ?_
          refine g_istore (L' := [(0, .ref (w.1 12)), (1, .int (nI (toN k))), (2, .int (nI n)), (3, .int (nI c)), (4, .int (nI (c / 8)))]) h dX11_busy_39 rfl (by decide) rfl ?_
          refine g_iload_n h dX11_busy_41 3 rfl ?_
          refine g_bipush h dX11_busy_42 (by decide) ?_
          refine g_iremN h dX11_busy_44 (by omega) (by omega) (by omega) ?_
          refine g_istore (L' := [(0, .ref (w.1 12)), (1, .int (nI (toN k))), (2, .int (nI n)), (3, .int (nI c)), (4, .int (nI (c / 8))), (5, .int (nI (c % 8)))]) h dX11_busy_45 rfl (by decide) rfl ?_
          refine g_iload h dX11_busy_47 4 rfl ?_
          refine g_iload h dX11_busy_49 5 rfl ?_
          refine g_icmpN_eq h dX11_busy_51 (by omega) (by omega) (fun c51 => ?_) (fun c51 => ?_)
          ·
            refine g_iincN (b := 1) (L' := [(0, .ref (w.1 12)), (1, .int (nI (toN k))), (2, .int (nI n)), (3, .int (nI (c + 1))), (4, .int (nI (c / 8))), (5, .int (nI (c % 8)))]) h dX11_busy_144 3 rfl rfl (by decide) (by decide) rfl ?_
            refine g_goto h dX11_busy_147 ?_
            exact g_sub [0, 1, 2, 3] rfl (ih29 n (c + 1) (τ) (by omega) (by first | exact as_j hn (bz_z (Or.inl c51)) | exact as_j hn (bz_z (Or.inr (Or.inl c57))) | exact as_j hn (bz_z (Or.inr (Or.inr (Or.inl c63)))) | exact as_j hn (bz_z (Or.inr (Or.inr (Or.inr (Or.inl (off_of hI c75)))))) | exact as_j hn (bz_z (Or.inr (Or.inr (Or.inr (Or.inr (Or.inl (off_of hI c87))))))) | exact as_j hn (bz_z (Or.inr (Or.inr (Or.inr (Or.inr (Or.inr c117)))))) | exact as_k hn ((bz_y c51 c57 c63 (on_of c75).2 (on_of c87).2 c117).trans (by rw [c131]; rfl)) | fail | fail) (by first | exact hvτ | assumption | fail | fail) (by first | exact ht14000_τ | assumption | fail | fail) (by first | exact hcFR_τ | assumption | fail | fail) (by first | exact hcCA_τ | assumption | fail | fail) (by omega))
          ·
            refine g_iload h dX11_busy_54 4 rfl ?_
            refine g_iload_n h dX11_busy_56 1 rfl ?_
            refine g_icmpN_eq h dX11_busy_57 (by omega) (by omega) (fun c57 => ?_) (fun c57 => ?_)
            ·
              refine g_iincN (b := 1) (L' := [(0, .ref (w.1 12)), (1, .int (nI (toN k))), (2, .int (nI n)), (3, .int (nI (c + 1))), (4, .int (nI (c / 8))), (5, .int (nI (c % 8)))]) h dX11_busy_144 3 rfl rfl (by decide) (by decide) rfl ?_
              refine g_goto h dX11_busy_147 ?_
              exact g_sub [0, 1, 2, 3] rfl (ih29 n (c + 1) (τ) (by omega) (by first | exact as_j hn (bz_z (Or.inl c51)) | exact as_j hn (bz_z (Or.inr (Or.inl c57))) | exact as_j hn (bz_z (Or.inr (Or.inr (Or.inl c63)))) | exact as_j hn (bz_z (Or.inr (Or.inr (Or.inr (Or.inl (off_of hI c75)))))) | exact as_j hn (bz_z (Or.inr (Or.inr (Or.inr (Or.inr (Or.inl (off_of hI c87))))))) | exact as_j hn (bz_z (Or.inr (Or.inr (Or.inr (Or.inr (Or.inr c117)))))) | exact as_k hn ((bz_y c51 c57 c63 (on_of c75).2 (on_of c87).2 c117).trans (by rw [c131]; rfl)) | fail | fail) (by first | exact hvτ | assumption | fail | fail) (by first | exact ht14000_τ | assumption | fail | fail) (by first | exact hcFR_τ | assumption | fail | fail) (by first | exact hcCA_τ | assumption | fail | fail) (by omega))
            ·
              refine g_iload h dX11_busy_60 5 rfl ?_
              refine g_iload_n h dX11_busy_62 1 rfl ?_
              refine g_icmpN_eq h dX11_busy_63 (by omega) (by omega) (fun c63 => ?_) (fun c63 => ?_)
              ·
                refine g_iincN (b := 1) (L' := [(0, .ref (w.1 12)), (1, .int (nI (toN k))), (2, .int (nI n)), (3, .int (nI (c + 1))), (4, .int (nI (c / 8))), (5, .int (nI (c % 8)))]) h dX11_busy_144 3 rfl rfl (by decide) (by decide) rfl ?_
                refine g_goto h dX11_busy_147 ?_
                exact g_sub [0, 1, 2, 3] rfl (ih29 n (c + 1) (τ) (by omega) (by first | exact as_j hn (bz_z (Or.inl c51)) | exact as_j hn (bz_z (Or.inr (Or.inl c57))) | exact as_j hn (bz_z (Or.inr (Or.inr (Or.inl c63)))) | exact as_j hn (bz_z (Or.inr (Or.inr (Or.inr (Or.inl (off_of hI c75)))))) | exact as_j hn (bz_z (Or.inr (Or.inr (Or.inr (Or.inr (Or.inl (off_of hI c87))))))) | exact as_j hn (bz_z (Or.inr (Or.inr (Or.inr (Or.inr (Or.inr c117)))))) | exact as_k hn ((bz_y c51 c57 c63 (on_of c75).2 (on_of c87).2 c117).trans (by rw [c131]; rfl)) | fail | fail) (by first | exact hvτ | assumption | fail | fail) (by first | exact ht14000_τ | assumption | fail | fail) (by first | exact hcFR_τ | assumption | fail | fail) (by first | exact hcCA_τ | assumption | fail | fail) (by omega))
              ·
                refine g_aload_n h dX11_busy_66 0 rfl ?_
                refine g_getr h dX11_busy_67 gX11_23 sc_12 rfl ?_
                refine g_iload h dX11_busy_70 4 rfl ?_
                refine g_cvpi (rest := []) h (c_isOnN hW (c / 8) 0 μ (by first | omega | decide | fail) (by first | exact hvτ | assumption | fail) (by assumption) (by omega)) lX5_isOn mX11_167 (Nat.lt_of_lt_of_le (by decide) (Nat.le_refl _)) (by decide) (sM_0 (m := 0) (by decide)) rfl rfl rfl rfl dX11_busy_72 ?_
                refine g_ifB_eq h dX11_busy_75 (fun c75 => ?_) (fun c75 => ?_)
                ·
                  refine g_iincN (b := 1) (L' := [(0, .ref (w.1 12)), (1, .int (nI (toN k))), (2, .int (nI n)), (3, .int (nI (c + 1))), (4, .int (nI (c / 8))), (5, .int (nI (c % 8)))]) h dX11_busy_144 3 rfl rfl (by decide) (by decide) rfl ?_
                  refine g_goto h dX11_busy_147 ?_
                  exact g_sub [0, 1, 2, 3] rfl (ih29 n (c + 1) (τ) (by omega) (by first | exact as_j hn (bz_z (Or.inl c51)) | exact as_j hn (bz_z (Or.inr (Or.inl c57))) | exact as_j hn (bz_z (Or.inr (Or.inr (Or.inl c63)))) | exact as_j hn (bz_z (Or.inr (Or.inr (Or.inr (Or.inl (off_of hI c75)))))) | exact as_j hn (bz_z (Or.inr (Or.inr (Or.inr (Or.inr (Or.inl (off_of hI c87))))))) | exact as_j hn (bz_z (Or.inr (Or.inr (Or.inr (Or.inr (Or.inr c117)))))) | exact as_k hn ((bz_y c51 c57 c63 (on_of c75).2 (on_of c87).2 c117).trans (by rw [c131]; rfl)) | fail | fail) (by first | exact hvτ | assumption | fail | fail) (by first | exact ht14000_τ | assumption | fail | fail) (by first | exact hcFR_τ | assumption | fail | fail) (by first | exact hcCA_τ | assumption | fail | fail) (by omega))
                ·
                  refine g_aload_n h dX11_busy_78 0 rfl ?_
                  refine g_getr h dX11_busy_79 gX11_23 sc_12 rfl ?_
                  refine g_iload h dX11_busy_82 5 rfl ?_
                  refine g_cvpi (rest := []) h (c_isOnN hW (c % 8) 0 μ (by first | omega | decide | fail) (by first | exact hvτ | assumption | fail) (by assumption) (by omega)) lX5_isOn mX11_167 (Nat.lt_of_lt_of_le (by decide) (Nat.le_refl _)) (by decide) (sM_0 (m := 0) (by decide)) rfl rfl rfl rfl dX11_busy_84 ?_
                  refine g_ifB_eq h dX11_busy_87 (fun c87 => ?_) (fun c87 => ?_)
                  ·
                    refine g_iincN (b := 1) (L' := [(0, .ref (w.1 12)), (1, .int (nI (toN k))), (2, .int (nI n)), (3, .int (nI (c + 1))), (4, .int (nI (c / 8))), (5, .int (nI (c % 8)))]) h dX11_busy_144 3 rfl rfl (by decide) (by decide) rfl ?_
                    refine g_goto h dX11_busy_147 ?_
                    exact g_sub [0, 1, 2, 3] rfl (ih29 n (c + 1) (τ) (by omega) (by first | exact as_j hn (bz_z (Or.inl c51)) | exact as_j hn (bz_z (Or.inr (Or.inl c57))) | exact as_j hn (bz_z (Or.inr (Or.inr (Or.inl c63)))) | exact as_j hn (bz_z (Or.inr (Or.inr (Or.inr (Or.inl (off_of hI c75)))))) | exact as_j hn (bz_z (Or.inr (Or.inr (Or.inr (Or.inr (Or.inl (off_of hI c87))))))) | exact as_j hn (bz_z (Or.inr (Or.inr (Or.inr (Or.inr (Or.inr c117)))))) | exact as_k hn ((bz_y c51 c57 c63 (on_of c75).2 (on_of c87).2 c117).trans (by rw [c131]; rfl)) | fail | fail) (by first | exact hvτ | assumption | fail | fail) (by first | exact ht14000_τ | assumption | fail | fail) (by first | exact hcFR_τ | assumption | fail | fail) (by first | exact hcCA_τ | assumption | fail | fail) (by omega))
                  ·
                    refine g_aload_n h dX11_busy_90 0 rfl ?_
                    refine g_getr h dX11_busy_91 gX11_58 sc_12 rfl ?_
                    refine g_aload_n h dX11_busy_94 0 rfl ?_
                    refine g_getr h dX11_busy_95 gX11_23 sc_12 rfl ?_
                    refine g_aload_n h dX11_busy_98 0 rfl ?_
                    refine g_getr h dX11_busy_99 gX11_51 sc_12 rfl ?_
                    refine g_iload h dX11_busy_102 4 rfl ?_
                    refine g_iload h dX11_busy_104 5 rfl ?_
                    refine g_cvv (rest := []) h (c_follow hW (c / 8) (c % 8) 0 μ (by first | omega | decide | fail) (by first | exact hvτ | assumption | fail) (by assumption) (by exact (on_of c75).1) (by exact (on_of c87).1) (by first | exact hcCA_τ | assumption | fail)) lX2_follow mX11_289 (Nat.lt_of_lt_of_le (by decide) (Nat.le_refl _)) (by decide) sc_23 rfl rfl rfl rfl dX11_busy_106 (fun σ_3 eσ_3 => ?_)
                    obtain ⟨eσ_3_a, eσ_3_b, eσ_3_c, eσ_3_d, eσ_3_e, eσ_3_f⟩ := eσ_3
                    have eσ_3_a : σ_3 15020 = (nI ((gnw μ (c / 8) (c % 8)).2.1 - 1)) := eσ_3_a
                    have eσ_3_b : σ_3 15021 = (nI ((gnw μ (c / 8) (c % 8)).1)) := eσ_3_b
                    have eσ_3_c : σ_3 15022 = ((gnw μ (c / 8) (c % 8)).2.2.2) := eσ_3_c
                    have eσ_3_d : CA σ_3 μ := eσ_3_d
                    have eσ_3_e : GN 15170 σ_3 (gnw μ (c / 8) (c % 8)).2.1 (gnw μ (c / 8) (c % 8)).2.2.1 := eσ_3_e
                    have eσ_3_f : ∀ a, ((a < 15020 ∨ 15023 ≤ a) ∧ (a < 15170 ∨ 15179 ≤ a)) → σ_3 a = (τ) a := eσ_3_f
                    have ht14000_σ_3 : σ_3 14000 = (nI (ns μ k)) := by rw [eσ_3_f _ (by first | omega | (simp only [vb] at *; omega))]; first | exact ht14000_τ | assumption
                    have ht15020_σ_3 : σ_3 15020 = (nI ((gnw μ (c / 8) (c % 8)).2.1 - 1)) := eσ_3_a
                    have ht15021_σ_3 : σ_3 15021 = (nI ((gnw μ (c / 8) (c % 8)).1)) := eσ_3_b
                    have ht15022_σ_3 : σ_3 15022 = ((gnw μ (c / 8) (c % 8)).2.2.2) := eσ_3_c
                    have hcFR_σ_3 : ∀ a, (a < 14900 ∧ a ≠ 14000) → σ_3 a = σ a := by intro a ha; exact Eq.trans (b := (τ) a) (eσ_3_f a (by first | omega | (simp only [vb] at *; omega))) (hcFR_τ a ha)
                    have hcCA_σ_3 : CA σ_3 μ := eσ_3_d
                    have hcGN_σ_3 : GN 15170 σ_3 (gnw μ (c / 8) (c % 8)).2.1 (gnw μ (c / 8) (c % 8)).2.2.1 := eσ_3_e
                    have hvσ_3 : vw (vb 0) σ_3 = μ := by rw [vw_fr (σ := (τ)) (fun j _ _ => eσ_3_f _ (by first | omega | (simp only [vb] at *; omega)))]; first | exact hvτ | assumption
                    have hgh := gnw_how (μ := μ) (fr := (c / 8)) (to := (c % 8))
                    have hg1 := gnw_1 (μ := μ) (fr := (c / 8)) (to := (c % 8))
                    have hg9 := gnw_le (μ := μ) (fr := (c / 8)) (to := (c % 8))
                    refine g_iload_n h dX11_busy_109 2 rfl ?_
                    refine g_aload_n h dX11_busy_110 0 rfl ?_
                    refine g_getr h dX11_busy_111 gX11_58 sc_12 rfl ?_
                    refine g_geti h dX11_busy_114 gX11_293 sc_23 rfl ?_
                    refine g_top (y := (nI ((gnw μ (c / 8) (c % 8)).1))) (by first | exact ht15021_σ_3 | assumption) ?_
                    refine g_ifN_ne h dX11_busy_117 (by omega) (fun c117 => ?_) (fun c117 => ?_)
                    ·
                      refine g_iconst h dX11_busy_138 (by decide) ?_
                      refine g_cspi (rest := [.int (nI n)]) h (c_asN hW false ) lX11_asNumber mX11_170 (Nat.lt_of_lt_of_le (by decide) (Nat.le_refl _)) (by decide) rfl rfl rfl dX11_busy_139 ?_
                      refine g_top (y := nI 0) rfl ?_
                      refine g_iaddN h dX11_busy_142  ?_
                      refine g_istore_n (L' := [(0, .ref (w.1 12)), (1, .int (nI (toN k))), (2, .int (nI (n + 0))), (3, .int (nI c)), (4, .int (nI (c / 8))), (5, .int (nI (c % 8)))]) h dX11_busy_143 rfl (by decide) rfl ?_
                      refine g_iincN (b := 1) (L' := [(0, .ref (w.1 12)), (1, .int (nI (toN k))), (2, .int (nI (n + 0))), (3, .int (nI (c + 1))), (4, .int (nI (c / 8))), (5, .int (nI (c % 8)))]) h dX11_busy_144 3 rfl rfl (by decide) (by decide) rfl ?_
                      refine g_goto h dX11_busy_147 ?_
                      exact g_sub [0, 1, 2, 3] rfl (ih29 (n + 0) (c + 1) σ_3 (by omega) (by first | exact as_j hn (bz_z (Or.inl c51)) | exact as_j hn (bz_z (Or.inr (Or.inl c57))) | exact as_j hn (bz_z (Or.inr (Or.inr (Or.inl c63)))) | exact as_j hn (bz_z (Or.inr (Or.inr (Or.inr (Or.inl (off_of hI c75)))))) | exact as_j hn (bz_z (Or.inr (Or.inr (Or.inr (Or.inr (Or.inl (off_of hI c87))))))) | exact as_j hn (bz_z (Or.inr (Or.inr (Or.inr (Or.inr (Or.inr c117)))))) | exact as_k hn ((bz_y c51 c57 c63 (on_of c75).2 (on_of c87).2 c117).trans (by rw [c131]; rfl)) | fail | fail) (by first | exact hvσ_3 | assumption | fail | fail) (by first | exact ht14000_σ_3 | assumption | fail | fail) (by first | exact hcFR_σ_3 | assumption | fail | fail) (by first | exact hcCA_σ_3 | assumption | fail | fail) (by omega))
                    ·
                      refine g_aload_n h dX11_busy_120 0 rfl ?_
                      refine g_getr h dX11_busy_121 gX11_58 sc_12 rfl ?_
                      refine g_geti h dX11_busy_124 gX11_322 sc_23 rfl ?_
                      refine g_top (y := ((gnw μ (c / 8) (c % 8)).2.2.2)) (by first | exact ht15022_σ_3 | assumption) ?_
                      refine g_iload_n h dX11_busy_127 1 rfl ?_
                      refine g_cspi (rest := [.int (nI n)]) h (c_has hW ((gnw μ (c / 8) (c % 8)).2.2.2) (toN k) (by omega)) lX5_has mX11_218 (Nat.lt_of_lt_of_le (by decide) (Nat.le_refl _)) (by decide) rfl rfl rfl dX11_busy_128 ?_
                      refine g_ifB_eq h dX11_busy_131 (fun c131 => ?_) (fun c131 => ?_)
                      ·
                        refine g_iconst h dX11_busy_138 (by decide) ?_
                        refine g_cspi (rest := [.int (nI n)]) h (c_asN hW false ) lX11_asNumber mX11_170 (Nat.lt_of_lt_of_le (by decide) (Nat.le_refl _)) (by decide) rfl rfl rfl dX11_busy_139 ?_
                        refine g_top (y := nI 0) rfl ?_
                        refine g_iaddN h dX11_busy_142  ?_
                        refine g_istore_n (L' := [(0, .ref (w.1 12)), (1, .int (nI (toN k))), (2, .int (nI (n + 0))), (3, .int (nI c)), (4, .int (nI (c / 8))), (5, .int (nI (c % 8)))]) h dX11_busy_143 rfl (by decide) rfl ?_
                        refine g_iincN (b := 1) (L' := [(0, .ref (w.1 12)), (1, .int (nI (toN k))), (2, .int (nI (n + 0))), (3, .int (nI (c + 1))), (4, .int (nI (c / 8))), (5, .int (nI (c % 8)))]) h dX11_busy_144 3 rfl rfl (by decide) (by decide) rfl ?_
                        refine g_goto h dX11_busy_147 ?_
                        exact g_sub [0, 1, 2, 3] rfl (ih29 (n + 0) (c + 1) σ_3 (by omega) (by first | exact as_j hn (bz_z (Or.inl c51)) | exact as_j hn (bz_z (Or.inr (Or.inl c57))) | exact as_j hn (bz_z (Or.inr (Or.inr (Or.inl c63)))) | exact as_j hn (bz_z (Or.inr (Or.inr (Or.inr (Or.inl (off_of hI c75)))))) | exact as_j hn (bz_z (Or.inr (Or.inr (Or.inr (Or.inr (Or.inl (off_of hI c87))))))) | exact as_j hn (bz_z (Or.inr (Or.inr (Or.inr (Or.inr (Or.inr c117)))))) | exact as_k hn ((bz_y c51 c57 c63 (on_of c75).2 (on_of c87).2 c117).trans (by rw [c131]; rfl)) | fail | fail) (by first | exact hvσ_3 | assumption | fail | fail) (by first | exact ht14000_σ_3 | assumption | fail | fail) (by first | exact hcFR_σ_3 | assumption | fail | fail) (by first | exact hcCA_σ_3 | assumption | fail | fail) (by omega))
                      ·
                        refine g_iconst h dX11_busy_134 (by decide) ?_
                        refine g_goto h dX11_busy_135 ?_
                        refine g_cspi (rest := [.int (nI n)]) h (c_asN hW true ) lX11_asNumber mX11_170 (Nat.lt_of_lt_of_le (by decide) (Nat.le_refl _)) (by decide) rfl rfl rfl dX11_busy_139 ?_
                        refine g_top (y := nI 1) rfl ?_
                        refine g_iaddN h dX11_busy_142  ?_
                        refine g_istore_n (L' := [(0, .ref (w.1 12)), (1, .int (nI (toN k))), (2, .int (nI (n + 1))), (3, .int (nI c)), (4, .int (nI (c / 8))), (5, .int (nI (c % 8)))]) h dX11_busy_143 rfl (by decide) rfl ?_
                        refine g_iincN (b := 1) (L' := [(0, .ref (w.1 12)), (1, .int (nI (toN k))), (2, .int (nI (n + 1))), (3, .int (nI (c + 1))), (4, .int (nI (c / 8))), (5, .int (nI (c % 8)))]) h dX11_busy_144 3 rfl rfl (by decide) (by decide) rfl ?_
                        refine g_goto h dX11_busy_147 ?_
                        exact g_sub [0, 1, 2, 3] rfl (ih29 (n + 1) (c + 1) σ_3 (by omega) (by first | exact as_j hn (bz_z (Or.inl c51)) | exact as_j hn (bz_z (Or.inr (Or.inl c57))) | exact as_j hn (bz_z (Or.inr (Or.inr (Or.inl c63)))) | exact as_j hn (bz_z (Or.inr (Or.inr (Or.inr (Or.inl (off_of hI c75)))))) | exact as_j hn (bz_z (Or.inr (Or.inr (Or.inr (Or.inr (Or.inl (off_of hI c87))))))) | exact as_j hn (bz_z (Or.inr (Or.inr (Or.inr (Or.inr (Or.inr c117)))))) | exact as_k hn ((bz_y c51 c57 c63 (on_of c75).2 (on_of c87).2 c117).trans (by rw [c131]; rfl)) | fail | fail) (by first | exact hvσ_3 | assumption | fail | fail) (by first | exact ht14000_σ_3 | assumption | fail | fail) (by first | exact hcFR_σ_3 | assumption | fail | fail) (by first | exact hcCA_σ_3 | assumption | fail | fail) (by omega))
    exact lp29 (_) 0 0 σ_2 (by omega) (by rfl) (by first | exact hvσ_2 | assumption | fail | fail) (by first | exact ht14000_σ_2 | assumption | fail | fail) (by first | exact hcFR_σ_2 | assumption | fail | fail) (by first | exact hcCA_σ_2 | assumption | fail | fail) (Nat.lt_succ_self _)
  ·
    refine g_iconstv h dX11_busy_12 (v := (-1)) (by decide) ?_
    exact g_iret h hQ dX11_busy_13 (congrArg (fun z => some (Value.int z)) (show (an (ns μ k) (nI (v_bsy μ (toN k)))) = (-1) by first | exact an_yes (by exact hS0) (by rw [hn, show c = 64 from by omega, bz_64 hI]) | exact an_no (k := (ns μ k)) (by first | rfl | (simp [fo, rg, ns, nB, ps, gst, ofS, offB, c9]; done) | (simp [fo, rg, ns, nB, ps, gst, ofS, offB, c9]; omega)) (by first | decide | omega | assumption | exact nb1 (by assumption)) | fail)) (by exact ⟨(by first | exact tk_eq (k := (ns μ k)) (by first | rfl | (simp [fo, rg, ns, nB, ps, gst, ofS, offB, c9]; done) | (simp [fo, rg, ns, nB, ps, gst, ofS, offB, c9]; omega)) ht14000_σ_1 | exact tk_eq (k := (ns μ k)) (by exact hS0) ht14000_σ_1 | fail), (by exact hcFR_σ_1)⟩)
