/-! what is set -/
def sgS (μ : Nat → Int32) (wt mc : Int32) : Nat := if wt = nI 0 then rg mc (nI 1) (nI 9) else if wt = nI 1 then rg mc (nI 1) (nI 99) else if wt = nI 2 then rg mc (nI (max 1 (nA μ 6))) (nI 999) else rg mc (nI 0) (nI (nA μ 5))
theorem sg_lt {μ : Nat → Int32} {wt mc : Int32} : sgS μ wt mc < 100 := by
  unfold sgS
  repeat (first | exact rg_lt | split)
theorem sg_0 {μ : Nat → Int32} {wt mc : Int32} (e : wt = nI 0) : sgS μ wt mc = rg mc (nI 1) (nI 9) := if_pos e
theorem sg_1 {μ : Nat → Int32} {wt mc : Int32} (e : wt = nI 1) : sgS μ wt mc = rg mc (nI 1) (nI 99) := by
  subst e
  exact (if_neg (by decide)).trans (if_pos rfl)
theorem sg_2 {μ : Nat → Int32} {wt mc : Int32} (e : wt = nI 2) : sgS μ wt mc = rg mc (nI (max 1 (nA μ 6))) (nI 999) := by
  subst e
  exact (if_neg (by decide)).trans ((if_neg (by decide)).trans (if_pos rfl))
theorem sg_3 {μ : Nat → Int32} {wt mc : Int32} (h0 : wt ≠ nI 0) (h1 : wt ≠ nI 1) (h2 : wt ≠ nI 2) : sgS μ wt mc = rg mc (nI 0) (nI (nA μ 5)) := (if_neg h0).trans ((if_neg h1).trans (if_neg h2))
theorem rg_4 {wt : Int32} (h0 : wt ≠ nI 0) (h1 : wt ≠ nI 1) (h2 : wt ≠ nI 2) (h3 : wt ≠ nI 3) : rg wt (nI 0) (nI 3) = 1 := by
  rcases rg_or (n := 3) wt (by decide) with ⟨_, e, k⟩ | ⟨hr, _⟩
  · exfalso
    have : toN wt = 0 ∨ toN wt = 1 ∨ toN wt = 2 ∨ toN wt = 3 := by omega
    rcases this with q | q | q | q <;> rw [q] at e
    · exact h0 e
    · exact h1 e
    · exact h2 e
    · exact h3 e
  · exact hr
theorem rg_k {wt : Int32} {k : Nat} (hk : k ≤ 3) (e : wt = nI k) : rg wt (nI 0) (nI 3) = 0 ∧ toN wt = k := by
  subst e
  have : k = 0 ∨ k = 1 ∨ k = 2 ∨ k = 3 := by omega
  rcases this with rfl | rfl | rfl | rfl <;> exact ⟨by decide, by decide⟩
theorem rg_f {x a b : Int32} (h : (decide (a ≤ x) && decide (x ≤ b)) = false) : rg x a b = 1 := by
  unfold rg
  rw [h]
  rfl
theorem rg_t {x a b : Int32} (h : (decide (a ≤ x) && decide (x ≤ b)) = true) : rg x a b = 0 := if_pos h
theorem nI_ne {k m : Nat} (hk : k < 2 ^ 31) (hm : m < 2 ^ 31) (h : k ≠ m) : nI k ≠ nI m := fun e => h (nI_inj hk hm e)
theorem out_ne {x : Int32} (h : x.toInt < 0 ∨ ((3 : Nat) : Int) < x.toInt) {k : Nat} (hk : k ≤ 3) : x ≠ nI k := by
  intro e
  subst e
  have : k = 0 ∨ k = 1 ∨ k = 2 ∨ k = 3 := by omega
  rcases this with rfl | rfl | rfl | rfl <;> revert h <;> decide

set_option maxRecDepth 100000 in
set_option maxHeartbeats 4000000 in
theorem j_max {l : Launch} {w : Wd} (hW : Wi w) {σ : Mem} (a b : Nat) (ha : a < 1000) (hb : b < 1000) : MC l w qJ9_max_7cf53 0 [.int (nI a), .int (nI b)] σ (some (.int (nI (max a b)))) (fun σ' => σ' = σ) := by
  refine MC.ofF hW (by decide +kernel) (Nat.le_of_ble_eq_true rfl) (fun X h hQ hnm => ?_)
  have h : Fx X w cJ9_max_7cf53 2 RJ9 0 := h
  have hQ : Qx X w (some .int) (some (.int (nI (max a b)))) (fun σ' => σ' = σ) := hQ
  show G X w 2 0 [(0, .int (nI a)), (1, .int (nI b))] [] σ
  refine g_iload_n h dJ9_max_7cf53_0 0 rfl ?_
  refine g_iload_n h dJ9_max_7cf53_1 1 rfl ?_
  refine g_icmpN_lt h dJ9_max_7cf53_2 (by omega) (by omega) (fun c2 => ?_) (fun c2 => ?_)
  ·
    refine g_iload_n h dJ9_max_7cf53_9 1 rfl ?_
    exact g_iret h hQ dJ9_max_7cf53_10 (congrArg (fun z => some (Value.int z)) (show (nI (max a b)) = (nI b) by congr 1; omega)) rfl
  ·
    refine g_iload_n h dJ9_max_7cf53_5 0 rfl ?_
    refine g_goto h dJ9_max_7cf53_6 ?_
    exact g_iret h hQ dJ9_max_7cf53_10 (congrArg (fun z => some (Value.int z)) (show (nI (max a b)) = (nI a) by congr 1; omega)) rfl

set_option maxRecDepth 100000 in
set_option maxHeartbeats 4000000 in
theorem q_set {l : Launch} {w : Wd} (hW : Wi w) {σ : Mem} (wt : Int32) (mc : Int32)  (μ : Nat → Int32) (hv : vw 0 σ = μ) (hI : MI μ) : MC l w qX12_set 1 [.ref (w.1 0), .int wt, .int mc] σ (some (.int (an (fo (rg wt (nI 0) (nI 3)) (sgS μ wt mc)) (μ (3 + toN wt))))) (fun σ' => (vw 0 σ' = pk0 (fo (rg wt (nI 0) (nI 3)) (sgS μ wt mc)) (upd μ (3 + toN wt) mc) μ) ∧ (σ' 4000 = (nI (fo (rg wt (nI 0) (nI 3)) (sgS μ wt mc)))) ∧ (∀ a, (464 ≤ a ∧ a ≠ 4000 ∨ a = 10) → σ' a = σ a)) := by
  refine MC.of hW (by decide +kernel) (Nat.le_of_ble_eq_true rfl) (fun X h hQ hnm => ?_)
  have h : Fx X w cX12_set 5 RX12 1 := h
  have hQ : Qx X w (some .int) (some (.int (an (fo (rg wt (nI 0) (nI 3)) (sgS μ wt mc)) (μ (3 + toN wt))))) (fun σ' => (vw 0 σ' = pk0 (fo (rg wt (nI 0) (nI 3)) (sgS μ wt mc)) (upd μ (3 + toN wt) mc) μ) ∧ (σ' 4000 = (nI (fo (rg wt (nI 0) (nI 3)) (sgS μ wt mc)))) ∧ (∀ a, (464 ≤ a ∧ a ≠ 4000 ∨ a = 10) → σ' a = σ a)) := hQ
  have hN8 := mi_8 hI
  have hcFR_σ : ∀ a, (464 ≤ a ∧ a ≠ 4000 ∨ a = 10) → σ a = σ a := fun _ _ => rfl
  show G X w 5 0 [(0, .ref (w.1 0)), (1, .int wt), (2, .int mc)] [] σ
  refine g_iload_n h dX12_set_0 1 rfl ?_
  refine g_if_ne h dX12_set_1 (fun c1 => ?_) (fun c1 => ?_)
  ·
    refine g_iload_n h dX12_set_14 1 rfl ?_
    refine g_iconst h dX12_set_15 (by decide) ?_
    refine g_icmp_ne h dX12_set_16 (fun c16 => ?_) (fun c16 => ?_)
    ·
      refine g_iload_n h dX12_set_29 1 rfl ?_
      refine g_iconst h dX12_set_30 (by decide) ?_
      refine g_icmp_ne h dX12_set_31 (fun c31 => ?_) (fun c31 => ?_)
      ·
        refine g_iload_n h dX12_set_54 1 rfl ?_
        refine g_iconst h dX12_set_55 (by decide) ?_
        refine g_icmp_ne h dX12_set_56 (fun c56 => ?_) (fun c56 => ?_)
        ·
          refine g_iconst h dX12_set_76 (by decide) ?_
          refine g_istore_n (L' := [(0, .ref (w.1 0)), (1, .int wt), (2, .int mc), (3, .int (nI 0))]) h dX12_set_77 rfl (by decide) rfl ?_
          refine g_iload_n h dX12_set_78 3 rfl ?_
          refine g_ifN_ne h dX12_set_79 (by decide) (fun c79 => absurd c79 (by decide)) (fun c79 => ?_)
          refine g_aload_n h dX12_set_82 0 rfl ?_
          refine g_iconst h dX12_set_83 (by decide) ?_
          refine g_cvi (rest := []) h (r_refuse hW (nI 1) ) lX12_refuse mX12_272 (Nat.lt_of_lt_of_le (by decide) (Nat.le_refl _)) (by decide) sc_0 rfl rfl rfl rfl dX12_set_84 (fun σ_1 eσ_1 => ?_)
          have eσ_1_a : σ_1 = upd σ 4000 (nI 1) := eσ_1
          have ht4000_σ_1 : σ_1 4000 = (nI 1) := by rw [eσ_1_a]; exact upd_eq
          have hcFR_σ_1 : ∀ a, (464 ≤ a ∧ a ≠ 4000 ∨ a = 10) → σ_1 a = σ a := by intro a ha; exact Eq.trans (b := σ a) (by rw [eσ_1_a, upd_ne (by first | omega | (simp only [vb] at *; omega))]) (hcFR_σ a ha)
          have hvσ_1 : vw 0 σ_1 = μ := by rw [eσ_1_a, vw_out (by omega)]; first | exact hv | assumption
          exact g_iret h hQ dX12_set_87 (congrArg (fun z => some (Value.int z)) (show (an (fo (rg wt (nI 0) (nI 3)) (sgS μ wt mc)) (μ (3 + toN wt))) = (-1) by first | exact an_yes (by exact hS0) (by rfl) | exact an_no (k := 1) (by first | exact (fo_r (rg_k (k := 0) (by decide) c1).1).trans ((sg_0 c1).trans (rg_f c79)) | exact (fo_r (rg_k (k := 1) (by decide) c16).1).trans ((sg_1 c16).trans (rg_f c79)) | exact (fo_r (rg_k (k := 2) (by decide) c31).1).trans ((sg_2 c31).trans (rg_f c79)) | exact (fo_r (rg_k (k := 3) (by decide) c56).1).trans ((sg_3 c1 c16 c31).trans (rg_f c69)) | exact (fo_l (by rw [rg_4 c1 c16 c31 c56]; decide)).trans (rg_4 c1 c16 c31 c56) | fail) (by first | decide | omega | assumption | exact nb1 (by assumption)) | fail)) (by exact ⟨(by first | exact pk_yes (by exact hS0) (by rw [hvσ_1, Nat.add_zero]) | exact pk_no (k := 1) (by first | exact (fo_r (rg_k (k := 0) (by decide) c1).1).trans ((sg_0 c1).trans (rg_f c79)) | exact (fo_r (rg_k (k := 1) (by decide) c16).1).trans ((sg_1 c16).trans (rg_f c79)) | exact (fo_r (rg_k (k := 2) (by decide) c31).1).trans ((sg_2 c31).trans (rg_f c79)) | exact (fo_r (rg_k (k := 3) (by decide) c56).1).trans ((sg_3 c1 c16 c31).trans (rg_f c69)) | exact (fo_l (by rw [rg_4 c1 c16 c31 c56]; decide)).trans (rg_4 c1 c16 c31 c56) | fail) (by first | decide | omega | assumption | exact nb1 (by assumption)) hvσ_1 | fail), (by first | exact tk_eq (k := 1) (by first | exact (fo_r (rg_k (k := 0) (by decide) c1).1).trans ((sg_0 c1).trans (rg_f c79)) | exact (fo_r (rg_k (k := 1) (by decide) c16).1).trans ((sg_1 c16).trans (rg_f c79)) | exact (fo_r (rg_k (k := 2) (by decide) c31).1).trans ((sg_2 c31).trans (rg_f c79)) | exact (fo_r (rg_k (k := 3) (by decide) c56).1).trans ((sg_3 c1 c16 c31).trans (rg_f c69)) | exact (fo_l (by rw [rg_4 c1 c16 c31 c56]; decide)).trans (rg_4 c1 c16 c31 c56) | fail) ht4000_σ_1 | exact tk_eq (k := 1) (by exact hS0) ht4000_σ_1 | fail), (by exact hcFR_σ_1)⟩)
        ·
          refine g_iload_n h dX12_set_59 2 rfl ?_
          refine g_iconst h dX12_set_60 (by decide) ?_
          refine g_aload_n h dX12_set_61 0 rfl ?_
          refine g_iconst h dX12_set_62 (by decide) ?_
          refine g_cvpi (rest := [.int (nI 0), .int mc]) h (r_of hW 5 μ (by assumption) (by omega)) lX12_of mX12_61 (Nat.lt_of_lt_of_le (by decide) (Nat.le_refl _)) (by decide) sc_0 rfl rfl rfl rfl dX12_set_63 ?_
          refine g_top (y := nI (nA μ 5)) (mi_5 (by assumption)) ?_
          have b9_63 : nA μ 5 < 1000 := mb_5 (by assumption)
          refine g_cspi (rest := []) h (r_isFrom hW mc (nI 0) (nI (nA μ 5)) ) lX12_isFrom mX12_134 (Nat.lt_of_lt_of_le (by decide) (Nat.le_refl _)) (by decide) rfl rfl rfl dX12_set_66 ?_
          refine g_ifB_eq h dX12_set_69 (fun c69 => ?_) (fun c69 => ?_)
          ·
            refine g_iconst h dX12_set_76 (by decide) ?_
            refine g_istore_n (L' := [(0, .ref (w.1 0)), (1, .int wt), (2, .int mc), (3, .int (nI 0))]) h dX12_set_77 rfl (by decide) rfl ?_
            refine g_iload_n h dX12_set_78 3 rfl ?_
            refine g_ifN_ne h dX12_set_79 (by decide) (fun c79 => absurd c79 (by decide)) (fun c79 => ?_)
            refine g_aload_n h dX12_set_82 0 rfl ?_
            refine g_iconst h dX12_set_83 (by decide) ?_
            refine g_cvi (rest := []) h (r_refuse hW (nI 1) ) lX12_refuse mX12_272 (Nat.lt_of_lt_of_le (by decide) (Nat.le_refl _)) (by decide) sc_0 rfl rfl rfl rfl dX12_set_84 (fun σ_2 eσ_2 => ?_)
            have eσ_2_a : σ_2 = upd σ 4000 (nI 1) := eσ_2
            have ht4000_σ_2 : σ_2 4000 = (nI 1) := by rw [eσ_2_a]; exact upd_eq
            have hcFR_σ_2 : ∀ a, (464 ≤ a ∧ a ≠ 4000 ∨ a = 10) → σ_2 a = σ a := by intro a ha; exact Eq.trans (b := σ a) (by rw [eσ_2_a, upd_ne (by first | omega | (simp only [vb] at *; omega))]) (hcFR_σ a ha)
            have hvσ_2 : vw 0 σ_2 = μ := by rw [eσ_2_a, vw_out (by omega)]; first | exact hv | assumption
            exact g_iret h hQ dX12_set_87 (congrArg (fun z => some (Value.int z)) (show (an (fo (rg wt (nI 0) (nI 3)) (sgS μ wt mc)) (μ (3 + toN wt))) = (-1) by first | exact an_yes (by exact hS0) (by rfl) | exact an_no (k := 1) (by first | exact (fo_r (rg_k (k := 0) (by decide) c1).1).trans ((sg_0 c1).trans (rg_f c79)) | exact (fo_r (rg_k (k := 1) (by decide) c16).1).trans ((sg_1 c16).trans (rg_f c79)) | exact (fo_r (rg_k (k := 2) (by decide) c31).1).trans ((sg_2 c31).trans (rg_f c79)) | exact (fo_r (rg_k (k := 3) (by decide) c56).1).trans ((sg_3 c1 c16 c31).trans (rg_f c69)) | exact (fo_l (by rw [rg_4 c1 c16 c31 c56]; decide)).trans (rg_4 c1 c16 c31 c56) | fail) (by first | decide | omega | assumption | exact nb1 (by assumption)) | fail)) (by exact ⟨(by first | exact pk_yes (by exact hS0) (by rw [hvσ_2, Nat.add_zero]) | exact pk_no (k := 1) (by first | exact (fo_r (rg_k (k := 0) (by decide) c1).1).trans ((sg_0 c1).trans (rg_f c79)) | exact (fo_r (rg_k (k := 1) (by decide) c16).1).trans ((sg_1 c16).trans (rg_f c79)) | exact (fo_r (rg_k (k := 2) (by decide) c31).1).trans ((sg_2 c31).trans (rg_f c79)) | exact (fo_r (rg_k (k := 3) (by decide) c56).1).trans ((sg_3 c1 c16 c31).trans (rg_f c69)) | exact (fo_l (by rw [rg_4 c1 c16 c31 c56]; decide)).trans (rg_4 c1 c16 c31 c56) | fail) (by first | decide | omega | assumption | exact nb1 (by assumption)) hvσ_2 | fail), (by first | exact tk_eq (k := 1) (by first | exact (fo_r (rg_k (k := 0) (by decide) c1).1).trans ((sg_0 c1).trans (rg_f c79)) | exact (fo_r (rg_k (k := 1) (by decide) c16).1).trans ((sg_1 c16).trans (rg_f c79)) | exact (fo_r (rg_k (k := 2) (by decide) c31).1).trans ((sg_2 c31).trans (rg_f c79)) | exact (fo_r (rg_k (k := 3) (by decide) c56).1).trans ((sg_3 c1 c16 c31).trans (rg_f c69)) | exact (fo_l (by rw [rg_4 c1 c16 c31 c56]; decide)).trans (rg_4 c1 c16 c31 c56) | fail) ht4000_σ_2 | exact tk_eq (k := 1) (by exact hS0) ht4000_σ_2 | fail), (by exact hcFR_σ_2)⟩)
          ·
            refine g_iconst h dX12_set_72 (by decide) ?_
            refine g_goto h dX12_set_73 ?_
            refine g_istore_n (L' := [(0, .ref (w.1 0)), (1, .int wt), (2, .int mc), (3, .int (nI 1))]) h dX12_set_77 rfl (by decide) rfl ?_
            refine g_iload_n h dX12_set_78 3 rfl ?_
            refine g_ifN_ne h dX12_set_79 (by decide) (fun c79 => ?_) (fun c79 => absurd c79 (by decide))
            have hS0 : fo (rg wt (nI 0) (nI 3)) (sgS μ wt mc) = 0 := by first | exact (fo_r (rg_k (k := 0) (by decide) c1).1).trans ((sg_0 c1).trans (rg_t c79)) | exact (fo_r (rg_k (k := 1) (by decide) c16).1).trans ((sg_1 c16).trans (rg_t c79)) | exact (fo_r (rg_k (k := 2) (by decide) c31).1).trans ((sg_2 c31).trans (rg_t c79)) | exact (fo_r (rg_k (k := 3) (by decide) c56).1).trans ((sg_3 c1 c16 c31).trans (rg_t c69)) | fail
            obtain ⟨hs1, hs2⟩ := fo_0 hS0
            obtain ⟨ew, hw9⟩ := rg_N (by decide) hs1
            rw [ew]
            show G X w 5 88 [(0, .ref (w.1 0)), (1, .int (nI (toN wt))), (2, .int mc), (3, .int (nI 1))] [] σ
            refine g_aload_n h dX12_set_88 0 rfl ?_
            refine g_iconst h dX12_set_89 (by decide) ?_
            refine g_iload_n h dX12_set_90 1 rfl ?_
            refine g_iaddN h dX12_set_91  ?_
            refine g_cvpi (rest := []) h (r_of hW (3 + toN wt) μ (by assumption) (by omega)) lX12_of mX12_61 (Nat.lt_of_lt_of_le (by decide) (Nat.le_refl _)) (by decide) sc_0 rfl rfl rfl rfl dX12_set_92 ?_
            refine g_istore (L' := [(0, .ref (w.1 0)), (1, .int (nI (toN wt))), (2, .int mc), (3, .int (nI 1)), (4, .int (μ (3 + toN wt)))]) h dX12_set_95 rfl (by decide) rfl ?_
            refine g_aload_n h dX12_set_97 0 rfl ?_
            refine g_iconst h dX12_set_98 (by decide) ?_
            refine g_iload_n h dX12_set_99 1 rfl ?_
            refine g_iaddN h dX12_set_100  ?_
            refine g_iload_n h dX12_set_101 2 rfl ?_
            refine g_cvv (rest := []) h (r_puts hW (3 + toN wt) mc (by omega)) lX12_puts mX12_57 (Nat.lt_of_lt_of_le (by decide) (Nat.le_refl _)) (by decide) sc_0 rfl rfl rfl rfl dX12_set_102 (fun σ_3 eσ_3 => ?_)
            have eσ_3_a : σ_3 = upd σ (0 + (3 + toN wt)) mc := eσ_3
            have hcFR_σ_3 : ∀ a, (464 ≤ a ∧ a ≠ 4000 ∨ a = 10) → σ_3 a = σ a := by intro a ha; exact Eq.trans (b := σ a) (by rw [eσ_3_a, upd_ne (by first | omega | (simp only [vb] at *; omega))]) (hcFR_σ a ha)
            obtain ⟨μ_4, eμ_4⟩ : ∃ μ_4 : Nat → Int32, μ_4 = upd μ (3 + toN wt) mc := ⟨_, rfl⟩
            have hvσ_3 : vw 0 σ_3 = μ_4 := by rw [eσ_3_a, eμ_4, vw_in (by omega)]; congr 1
            refine g_aload_n h dX12_set_105 0 rfl ?_
            refine g_iload h dX12_set_106 4 rfl ?_
            refine g_cvi (rest := []) h (r_gives hW (μ (3 + toN wt)) ) lX12_gives mX12_281 (Nat.lt_of_lt_of_le (by decide) (Nat.le_refl _)) (by decide) sc_0 rfl rfl rfl rfl dX12_set_108 (fun σ_5 eσ_5 => ?_)
            have eσ_5_a : σ_5 = upd σ_3 4000 (nI 0) := eσ_5
            have ht4000_σ_5 : σ_5 4000 = (nI 0) := by rw [eσ_5_a]; exact upd_eq
            have hcFR_σ_5 : ∀ a, (464 ≤ a ∧ a ≠ 4000 ∨ a = 10) → σ_5 a = σ a := by intro a ha; exact Eq.trans (b := σ_3 a) (by rw [eσ_5_a, upd_ne (by first | omega | (simp only [vb] at *; omega))]) (hcFR_σ_3 a ha)
            have hvσ_5 : vw 0 σ_5 = μ_4 := by rw [eσ_5_a, vw_out (by omega)]; first | exact hvσ_3 | assumption
            exact g_iret h hQ dX12_set_111 (congrArg (fun z => some (Value.int z)) (show (an (fo (rg wt (nI 0) (nI 3)) (sgS μ wt mc)) (μ (3 + toN wt))) = (μ (3 + toN wt)) by first | exact an_yes (by exact hS0) (by rfl) | exact an_no (k := 0) (by first | exact (fo_r (rg_k (k := 0) (by decide) c1).1).trans ((sg_0 c1).trans (rg_f c79)) | exact (fo_r (rg_k (k := 1) (by decide) c16).1).trans ((sg_1 c16).trans (rg_f c79)) | exact (fo_r (rg_k (k := 2) (by decide) c31).1).trans ((sg_2 c31).trans (rg_f c79)) | exact (fo_r (rg_k (k := 3) (by decide) c56).1).trans ((sg_3 c1 c16 c31).trans (rg_f c69)) | exact (fo_l (by rw [rg_4 c1 c16 c31 c56]; decide)).trans (rg_4 c1 c16 c31 c56) | fail) (by first | decide | omega | assumption | exact nb1 (by assumption)) | fail)) (by exact ⟨(by first | exact pk_yes (by exact hS0) (by rw [hvσ_5, eμ_4]) | exact pk_no (k := 0) (by first | exact (fo_r (rg_k (k := 0) (by decide) c1).1).trans ((sg_0 c1).trans (rg_f c79)) | exact (fo_r (rg_k (k := 1) (by decide) c16).1).trans ((sg_1 c16).trans (rg_f c79)) | exact (fo_r (rg_k (k := 2) (by decide) c31).1).trans ((sg_2 c31).trans (rg_f c79)) | exact (fo_r (rg_k (k := 3) (by decide) c56).1).trans ((sg_3 c1 c16 c31).trans (rg_f c69)) | exact (fo_l (by rw [rg_4 c1 c16 c31 c56]; decide)).trans (rg_4 c1 c16 c31 c56) | fail) (by first | decide | omega | assumption | exact nb1 (by assumption)) hvσ_5 | fail), (by first | exact tk_eq (k := 0) (by first | exact (fo_r (rg_k (k := 0) (by decide) c1).1).trans ((sg_0 c1).trans (rg_f c79)) | exact (fo_r (rg_k (k := 1) (by decide) c16).1).trans ((sg_1 c16).trans (rg_f c79)) | exact (fo_r (rg_k (k := 2) (by decide) c31).1).trans ((sg_2 c31).trans (rg_f c79)) | exact (fo_r (rg_k (k := 3) (by decide) c56).1).trans ((sg_3 c1 c16 c31).trans (rg_f c69)) | exact (fo_l (by rw [rg_4 c1 c16 c31 c56]; decide)).trans (rg_4 c1 c16 c31 c56) | fail) ht4000_σ_5 | exact tk_eq (k := 0) (by exact hS0) ht4000_σ_5 | fail), (by exact hcFR_σ_5)⟩)
      ·
        refine g_iload_n h dX12_set_34 2 rfl ?_
        refine g_iconst h dX12_set_35 (by decide) ?_
        refine g_aload_n h dX12_set_36 0 rfl ?_
        refine g_bipush h dX12_set_37 (by decide) ?_
        refine g_cvpi (rest := [.int (nI 1), .int mc]) h (r_of hW 6 μ (by assumption) (by omega)) lX12_of mX12_61 (Nat.lt_of_lt_of_le (by decide) (Nat.le_refl _)) (by decide) sc_0 rfl rfl rfl rfl dX12_set_39 ?_
        refine g_top (y := nI (nA μ 6)) (mi_6 (by assumption)) ?_
        have b9_39 : nA μ 6 < 1000 := mb_6 (by assumption)
        refine g_cspi (rest := [.int mc]) h (j_max hW 1 (nA μ 6) (by omega) (by omega)) lJ9_max_7cf53 mX12_173 (Nat.lt_of_lt_of_le (by decide) (Nat.le_refl _)) (by decide) rfl rfl rfl dX12_set_42 ?_
        refine g_sipush h dX12_set_45 (by decide) ?_
        refine g_cspi (rest := []) h (r_isFrom hW mc (nI (max 1 (nA μ 6))) (nI 999) ) lX12_isFrom mX12_134 (Nat.lt_of_lt_of_le (by decide) (Nat.le_refl _)) (by decide) rfl rfl rfl dX12_set_48 ?_
        refine g_goto h dX12_set_51 ?_
        refine g_istore_n (L' := [(0, .ref (w.1 0)), (1, .int wt), (2, .int mc), (3, .int (b2i (decide ((nI (max 1 (nA μ 6))) ≤ mc) && decide (mc ≤ (nI 999)))))]) h dX12_set_77 rfl (by decide) rfl ?_
        refine g_iload_n h dX12_set_78 3 rfl ?_
        refine g_ifB_ne h dX12_set_79 (fun c79 => ?_) (fun c79 => ?_)
        ·
          have hS0 : fo (rg wt (nI 0) (nI 3)) (sgS μ wt mc) = 0 := by first | exact (fo_r (rg_k (k := 0) (by decide) c1).1).trans ((sg_0 c1).trans (rg_t c79)) | exact (fo_r (rg_k (k := 1) (by decide) c16).1).trans ((sg_1 c16).trans (rg_t c79)) | exact (fo_r (rg_k (k := 2) (by decide) c31).1).trans ((sg_2 c31).trans (rg_t c79)) | exact (fo_r (rg_k (k := 3) (by decide) c56).1).trans ((sg_3 c1 c16 c31).trans (rg_t c69)) | fail
          obtain ⟨hs1, hs2⟩ := fo_0 hS0
          obtain ⟨ew, hw9⟩ := rg_N (by decide) hs1
          rw [ew]
          show G X w 5 88 [(0, .ref (w.1 0)), (1, .int (nI (toN wt))), (2, .int mc), (3, .int (b2i (decide ((nI (max 1 (nA μ 6))) ≤ mc) && decide (mc ≤ (nI 999)))))] [] σ
          refine g_aload_n h dX12_set_88 0 rfl ?_
          refine g_iconst h dX12_set_89 (by decide) ?_
          refine g_iload_n h dX12_set_90 1 rfl ?_
          refine g_iaddN h dX12_set_91  ?_
          refine g_cvpi (rest := []) h (r_of hW (3 + toN wt) μ (by assumption) (by omega)) lX12_of mX12_61 (Nat.lt_of_lt_of_le (by decide) (Nat.le_refl _)) (by decide) sc_0 rfl rfl rfl rfl dX12_set_92 ?_
          refine g_istore (L' := [(0, .ref (w.1 0)), (1, .int (nI (toN wt))), (2, .int mc), (3, .int (b2i (decide ((nI (max 1 (nA μ 6))) ≤ mc) && decide (mc ≤ (nI 999))))), (4, .int (μ (3 + toN wt)))]) h dX12_set_95 rfl (by decide) rfl ?_
          refine g_aload_n h dX12_set_97 0 rfl ?_
          refine g_iconst h dX12_set_98 (by decide) ?_
          refine g_iload_n h dX12_set_99 1 rfl ?_
          refine g_iaddN h dX12_set_100  ?_
          refine g_iload_n h dX12_set_101 2 rfl ?_
          refine g_cvv (rest := []) h (r_puts hW (3 + toN wt) mc (by omega)) lX12_puts mX12_57 (Nat.lt_of_lt_of_le (by decide) (Nat.le_refl _)) (by decide) sc_0 rfl rfl rfl rfl dX12_set_102 (fun σ_6 eσ_6 => ?_)
          have eσ_6_a : σ_6 = upd σ (0 + (3 + toN wt)) mc := eσ_6
          have hcFR_σ_6 : ∀ a, (464 ≤ a ∧ a ≠ 4000 ∨ a = 10) → σ_6 a = σ a := by intro a ha; exact Eq.trans (b := σ a) (by rw [eσ_6_a, upd_ne (by first | omega | (simp only [vb] at *; omega))]) (hcFR_σ a ha)
          obtain ⟨μ_7, eμ_7⟩ : ∃ μ_7 : Nat → Int32, μ_7 = upd μ (3 + toN wt) mc := ⟨_, rfl⟩
          have hvσ_6 : vw 0 σ_6 = μ_7 := by rw [eσ_6_a, eμ_7, vw_in (by omega)]; congr 1
          refine g_aload_n h dX12_set_105 0 rfl ?_
          refine g_iload h dX12_set_106 4 rfl ?_
          refine g_cvi (rest := []) h (r_gives hW (μ (3 + toN wt)) ) lX12_gives mX12_281 (Nat.lt_of_lt_of_le (by decide) (Nat.le_refl _)) (by decide) sc_0 rfl rfl rfl rfl dX12_set_108 (fun σ_8 eσ_8 => ?_)
          have eσ_8_a : σ_8 = upd σ_6 4000 (nI 0) := eσ_8
          have ht4000_σ_8 : σ_8 4000 = (nI 0) := by rw [eσ_8_a]; exact upd_eq
          have hcFR_σ_8 : ∀ a, (464 ≤ a ∧ a ≠ 4000 ∨ a = 10) → σ_8 a = σ a := by intro a ha; exact Eq.trans (b := σ_6 a) (by rw [eσ_8_a, upd_ne (by first | omega | (simp only [vb] at *; omega))]) (hcFR_σ_6 a ha)
          have hvσ_8 : vw 0 σ_8 = μ_7 := by rw [eσ_8_a, vw_out (by omega)]; first | exact hvσ_6 | assumption
          exact g_iret h hQ dX12_set_111 (congrArg (fun z => some (Value.int z)) (show (an (fo (rg wt (nI 0) (nI 3)) (sgS μ wt mc)) (μ (3 + toN wt))) = (μ (3 + toN wt)) by first | exact an_yes (by exact hS0) (by rfl) | exact an_no (k := 0) (by first | exact (fo_r (rg_k (k := 0) (by decide) c1).1).trans ((sg_0 c1).trans (rg_f c79)) | exact (fo_r (rg_k (k := 1) (by decide) c16).1).trans ((sg_1 c16).trans (rg_f c79)) | exact (fo_r (rg_k (k := 2) (by decide) c31).1).trans ((sg_2 c31).trans (rg_f c79)) | exact (fo_r (rg_k (k := 3) (by decide) c56).1).trans ((sg_3 c1 c16 c31).trans (rg_f c69)) | exact (fo_l (by rw [rg_4 c1 c16 c31 c56]; decide)).trans (rg_4 c1 c16 c31 c56) | fail) (by first | decide | omega | assumption | exact nb1 (by assumption)) | fail)) (by exact ⟨(by first | exact pk_yes (by exact hS0) (by rw [hvσ_8, eμ_7]) | exact pk_no (k := 0) (by first | exact (fo_r (rg_k (k := 0) (by decide) c1).1).trans ((sg_0 c1).trans (rg_f c79)) | exact (fo_r (rg_k (k := 1) (by decide) c16).1).trans ((sg_1 c16).trans (rg_f c79)) | exact (fo_r (rg_k (k := 2) (by decide) c31).1).trans ((sg_2 c31).trans (rg_f c79)) | exact (fo_r (rg_k (k := 3) (by decide) c56).1).trans ((sg_3 c1 c16 c31).trans (rg_f c69)) | exact (fo_l (by rw [rg_4 c1 c16 c31 c56]; decide)).trans (rg_4 c1 c16 c31 c56) | fail) (by first | decide | omega | assumption | exact nb1 (by assumption)) hvσ_8 | fail), (by first | exact tk_eq (k := 0) (by first | exact (fo_r (rg_k (k := 0) (by decide) c1).1).trans ((sg_0 c1).trans (rg_f c79)) | exact (fo_r (rg_k (k := 1) (by decide) c16).1).trans ((sg_1 c16).trans (rg_f c79)) | exact (fo_r (rg_k (k := 2) (by decide) c31).1).trans ((sg_2 c31).trans (rg_f c79)) | exact (fo_r (rg_k (k := 3) (by decide) c56).1).trans ((sg_3 c1 c16 c31).trans (rg_f c69)) | exact (fo_l (by rw [rg_4 c1 c16 c31 c56]; decide)).trans (rg_4 c1 c16 c31 c56) | fail) ht4000_σ_8 | exact tk_eq (k := 0) (by exact hS0) ht4000_σ_8 | fail), (by exact hcFR_σ_8)⟩)
        ·
          refine g_aload_n h dX12_set_82 0 rfl ?_
          refine g_iconst h dX12_set_83 (by decide) ?_
          refine g_cvi (rest := []) h (r_refuse hW (nI 1) ) lX12_refuse mX12_272 (Nat.lt_of_lt_of_le (by decide) (Nat.le_refl _)) (by decide) sc_0 rfl rfl rfl rfl dX12_set_84 (fun σ_9 eσ_9 => ?_)
          have eσ_9_a : σ_9 = upd σ 4000 (nI 1) := eσ_9
          have ht4000_σ_9 : σ_9 4000 = (nI 1) := by rw [eσ_9_a]; exact upd_eq
          have hcFR_σ_9 : ∀ a, (464 ≤ a ∧ a ≠ 4000 ∨ a = 10) → σ_9 a = σ a := by intro a ha; exact Eq.trans (b := σ a) (by rw [eσ_9_a, upd_ne (by first | omega | (simp only [vb] at *; omega))]) (hcFR_σ a ha)
          have hvσ_9 : vw 0 σ_9 = μ := by rw [eσ_9_a, vw_out (by omega)]; first | exact hv | assumption
          exact g_iret h hQ dX12_set_87 (congrArg (fun z => some (Value.int z)) (show (an (fo (rg wt (nI 0) (nI 3)) (sgS μ wt mc)) (μ (3 + toN wt))) = (-1) by first | exact an_yes (by exact hS0) (by rfl) | exact an_no (k := 1) (by first | exact (fo_r (rg_k (k := 0) (by decide) c1).1).trans ((sg_0 c1).trans (rg_f c79)) | exact (fo_r (rg_k (k := 1) (by decide) c16).1).trans ((sg_1 c16).trans (rg_f c79)) | exact (fo_r (rg_k (k := 2) (by decide) c31).1).trans ((sg_2 c31).trans (rg_f c79)) | exact (fo_r (rg_k (k := 3) (by decide) c56).1).trans ((sg_3 c1 c16 c31).trans (rg_f c69)) | exact (fo_l (by rw [rg_4 c1 c16 c31 c56]; decide)).trans (rg_4 c1 c16 c31 c56) | fail) (by first | decide | omega | assumption | exact nb1 (by assumption)) | fail)) (by exact ⟨(by first | exact pk_yes (by exact hS0) (by rw [hvσ_9, Nat.add_zero]) | exact pk_no (k := 1) (by first | exact (fo_r (rg_k (k := 0) (by decide) c1).1).trans ((sg_0 c1).trans (rg_f c79)) | exact (fo_r (rg_k (k := 1) (by decide) c16).1).trans ((sg_1 c16).trans (rg_f c79)) | exact (fo_r (rg_k (k := 2) (by decide) c31).1).trans ((sg_2 c31).trans (rg_f c79)) | exact (fo_r (rg_k (k := 3) (by decide) c56).1).trans ((sg_3 c1 c16 c31).trans (rg_f c69)) | exact (fo_l (by rw [rg_4 c1 c16 c31 c56]; decide)).trans (rg_4 c1 c16 c31 c56) | fail) (by first | decide | omega | assumption | exact nb1 (by assumption)) hvσ_9 | fail), (by first | exact tk_eq (k := 1) (by first | exact (fo_r (rg_k (k := 0) (by decide) c1).1).trans ((sg_0 c1).trans (rg_f c79)) | exact (fo_r (rg_k (k := 1) (by decide) c16).1).trans ((sg_1 c16).trans (rg_f c79)) | exact (fo_r (rg_k (k := 2) (by decide) c31).1).trans ((sg_2 c31).trans (rg_f c79)) | exact (fo_r (rg_k (k := 3) (by decide) c56).1).trans ((sg_3 c1 c16 c31).trans (rg_f c69)) | exact (fo_l (by rw [rg_4 c1 c16 c31 c56]; decide)).trans (rg_4 c1 c16 c31 c56) | fail) ht4000_σ_9 | exact tk_eq (k := 1) (by exact hS0) ht4000_σ_9 | fail), (by exact hcFR_σ_9)⟩)
    ·
      refine g_iload_n h dX12_set_19 2 rfl ?_
      refine g_iconst h dX12_set_20 (by decide) ?_
      refine g_bipush h dX12_set_21 (by decide) ?_
      refine g_cspi (rest := []) h (r_isFrom hW mc (nI 1) (nI 99) ) lX12_isFrom mX12_134 (Nat.lt_of_lt_of_le (by decide) (Nat.le_refl _)) (by decide) rfl rfl rfl dX12_set_23 ?_
      refine g_goto h dX12_set_26 ?_
      refine g_istore_n (L' := [(0, .ref (w.1 0)), (1, .int wt), (2, .int mc), (3, .int (b2i (decide ((nI 1) ≤ mc) && decide (mc ≤ (nI 99)))))]) h dX12_set_77 rfl (by decide) rfl ?_
      refine g_iload_n h dX12_set_78 3 rfl ?_
      refine g_ifB_ne h dX12_set_79 (fun c79 => ?_) (fun c79 => ?_)
      ·
        have hS0 : fo (rg wt (nI 0) (nI 3)) (sgS μ wt mc) = 0 := by first | exact (fo_r (rg_k (k := 0) (by decide) c1).1).trans ((sg_0 c1).trans (rg_t c79)) | exact (fo_r (rg_k (k := 1) (by decide) c16).1).trans ((sg_1 c16).trans (rg_t c79)) | exact (fo_r (rg_k (k := 2) (by decide) c31).1).trans ((sg_2 c31).trans (rg_t c79)) | exact (fo_r (rg_k (k := 3) (by decide) c56).1).trans ((sg_3 c1 c16 c31).trans (rg_t c69)) | fail
        obtain ⟨hs1, hs2⟩ := fo_0 hS0
        obtain ⟨ew, hw9⟩ := rg_N (by decide) hs1
        rw [ew]
        show G X w 5 88 [(0, .ref (w.1 0)), (1, .int (nI (toN wt))), (2, .int mc), (3, .int (b2i (decide ((nI 1) ≤ mc) && decide (mc ≤ (nI 99)))))] [] σ
        refine g_aload_n h dX12_set_88 0 rfl ?_
        refine g_iconst h dX12_set_89 (by decide) ?_
        refine g_iload_n h dX12_set_90 1 rfl ?_
        refine g_iaddN h dX12_set_91  ?_
        refine g_cvpi (rest := []) h (r_of hW (3 + toN wt) μ (by assumption) (by omega)) lX12_of mX12_61 (Nat.lt_of_lt_of_le (by decide) (Nat.le_refl _)) (by decide) sc_0 rfl rfl rfl rfl dX12_set_92 ?_
        refine g_istore (L' := [(0, .ref (w.1 0)), (1, .int (nI (toN wt))), (2, .int mc), (3, .int (b2i (decide ((nI 1) ≤ mc) && decide (mc ≤ (nI 99))))), (4, .int (μ (3 + toN wt)))]) h dX12_set_95 rfl (by decide) rfl ?_
        refine g_aload_n h dX12_set_97 0 rfl ?_
        refine g_iconst h dX12_set_98 (by decide) ?_
        refine g_iload_n h dX12_set_99 1 rfl ?_
        refine g_iaddN h dX12_set_100  ?_
        refine g_iload_n h dX12_set_101 2 rfl ?_
        refine g_cvv (rest := []) h (r_puts hW (3 + toN wt) mc (by omega)) lX12_puts mX12_57 (Nat.lt_of_lt_of_le (by decide) (Nat.le_refl _)) (by decide) sc_0 rfl rfl rfl rfl dX12_set_102 (fun σ_10 eσ_10 => ?_)
        have eσ_10_a : σ_10 = upd σ (0 + (3 + toN wt)) mc := eσ_10
        have hcFR_σ_10 : ∀ a, (464 ≤ a ∧ a ≠ 4000 ∨ a = 10) → σ_10 a = σ a := by intro a ha; exact Eq.trans (b := σ a) (by rw [eσ_10_a, upd_ne (by first | omega | (simp only [vb] at *; omega))]) (hcFR_σ a ha)
        obtain ⟨μ_11, eμ_11⟩ : ∃ μ_11 : Nat → Int32, μ_11 = upd μ (3 + toN wt) mc := ⟨_, rfl⟩
        have hvσ_10 : vw 0 σ_10 = μ_11 := by rw [eσ_10_a, eμ_11, vw_in (by omega)]; congr 1
        refine g_aload_n h dX12_set_105 0 rfl ?_
        refine g_iload h dX12_set_106 4 rfl ?_
        refine g_cvi (rest := []) h (r_gives hW (μ (3 + toN wt)) ) lX12_gives mX12_281 (Nat.lt_of_lt_of_le (by decide) (Nat.le_refl _)) (by decide) sc_0 rfl rfl rfl rfl dX12_set_108 (fun σ_12 eσ_12 => ?_)
        have eσ_12_a : σ_12 = upd σ_10 4000 (nI 0) := eσ_12
        have ht4000_σ_12 : σ_12 4000 = (nI 0) := by rw [eσ_12_a]; exact upd_eq
        have hcFR_σ_12 : ∀ a, (464 ≤ a ∧ a ≠ 4000 ∨ a = 10) → σ_12 a = σ a := by intro a ha; exact Eq.trans (b := σ_10 a) (by rw [eσ_12_a, upd_ne (by first | omega | (simp only [vb] at *; omega))]) (hcFR_σ_10 a ha)
        have hvσ_12 : vw 0 σ_12 = μ_11 := by rw [eσ_12_a, vw_out (by omega)]; first | exact hvσ_10 | assumption
        exact g_iret h hQ dX12_set_111 (congrArg (fun z => some (Value.int z)) (show (an (fo (rg wt (nI 0) (nI 3)) (sgS μ wt mc)) (μ (3 + toN wt))) = (μ (3 + toN wt)) by first | exact an_yes (by exact hS0) (by rfl) | exact an_no (k := 0) (by first | exact (fo_r (rg_k (k := 0) (by decide) c1).1).trans ((sg_0 c1).trans (rg_f c79)) | exact (fo_r (rg_k (k := 1) (by decide) c16).1).trans ((sg_1 c16).trans (rg_f c79)) | exact (fo_r (rg_k (k := 2) (by decide) c31).1).trans ((sg_2 c31).trans (rg_f c79)) | exact (fo_r (rg_k (k := 3) (by decide) c56).1).trans ((sg_3 c1 c16 c31).trans (rg_f c69)) | exact (fo_l (by rw [rg_4 c1 c16 c31 c56]; decide)).trans (rg_4 c1 c16 c31 c56) | fail) (by first | decide | omega | assumption | exact nb1 (by assumption)) | fail)) (by exact ⟨(by first | exact pk_yes (by exact hS0) (by rw [hvσ_12, eμ_11]) | exact pk_no (k := 0) (by first | exact (fo_r (rg_k (k := 0) (by decide) c1).1).trans ((sg_0 c1).trans (rg_f c79)) | exact (fo_r (rg_k (k := 1) (by decide) c16).1).trans ((sg_1 c16).trans (rg_f c79)) | exact (fo_r (rg_k (k := 2) (by decide) c31).1).trans ((sg_2 c31).trans (rg_f c79)) | exact (fo_r (rg_k (k := 3) (by decide) c56).1).trans ((sg_3 c1 c16 c31).trans (rg_f c69)) | exact (fo_l (by rw [rg_4 c1 c16 c31 c56]; decide)).trans (rg_4 c1 c16 c31 c56) | fail) (by first | decide | omega | assumption | exact nb1 (by assumption)) hvσ_12 | fail), (by first | exact tk_eq (k := 0) (by first | exact (fo_r (rg_k (k := 0) (by decide) c1).1).trans ((sg_0 c1).trans (rg_f c79)) | exact (fo_r (rg_k (k := 1) (by decide) c16).1).trans ((sg_1 c16).trans (rg_f c79)) | exact (fo_r (rg_k (k := 2) (by decide) c31).1).trans ((sg_2 c31).trans (rg_f c79)) | exact (fo_r (rg_k (k := 3) (by decide) c56).1).trans ((sg_3 c1 c16 c31).trans (rg_f c69)) | exact (fo_l (by rw [rg_4 c1 c16 c31 c56]; decide)).trans (rg_4 c1 c16 c31 c56) | fail) ht4000_σ_12 | exact tk_eq (k := 0) (by exact hS0) ht4000_σ_12 | fail), (by exact hcFR_σ_12)⟩)
      ·
        refine g_aload_n h dX12_set_82 0 rfl ?_
        refine g_iconst h dX12_set_83 (by decide) ?_
        refine g_cvi (rest := []) h (r_refuse hW (nI 1) ) lX12_refuse mX12_272 (Nat.lt_of_lt_of_le (by decide) (Nat.le_refl _)) (by decide) sc_0 rfl rfl rfl rfl dX12_set_84 (fun σ_13 eσ_13 => ?_)
        have eσ_13_a : σ_13 = upd σ 4000 (nI 1) := eσ_13
        have ht4000_σ_13 : σ_13 4000 = (nI 1) := by rw [eσ_13_a]; exact upd_eq
        have hcFR_σ_13 : ∀ a, (464 ≤ a ∧ a ≠ 4000 ∨ a = 10) → σ_13 a = σ a := by intro a ha; exact Eq.trans (b := σ a) (by rw [eσ_13_a, upd_ne (by first | omega | (simp only [vb] at *; omega))]) (hcFR_σ a ha)
        have hvσ_13 : vw 0 σ_13 = μ := by rw [eσ_13_a, vw_out (by omega)]; first | exact hv | assumption
        exact g_iret h hQ dX12_set_87 (congrArg (fun z => some (Value.int z)) (show (an (fo (rg wt (nI 0) (nI 3)) (sgS μ wt mc)) (μ (3 + toN wt))) = (-1) by first | exact an_yes (by exact hS0) (by rfl) | exact an_no (k := 1) (by first | exact (fo_r (rg_k (k := 0) (by decide) c1).1).trans ((sg_0 c1).trans (rg_f c79)) | exact (fo_r (rg_k (k := 1) (by decide) c16).1).trans ((sg_1 c16).trans (rg_f c79)) | exact (fo_r (rg_k (k := 2) (by decide) c31).1).trans ((sg_2 c31).trans (rg_f c79)) | exact (fo_r (rg_k (k := 3) (by decide) c56).1).trans ((sg_3 c1 c16 c31).trans (rg_f c69)) | exact (fo_l (by rw [rg_4 c1 c16 c31 c56]; decide)).trans (rg_4 c1 c16 c31 c56) | fail) (by first | decide | omega | assumption | exact nb1 (by assumption)) | fail)) (by exact ⟨(by first | exact pk_yes (by exact hS0) (by rw [hvσ_13, Nat.add_zero]) | exact pk_no (k := 1) (by first | exact (fo_r (rg_k (k := 0) (by decide) c1).1).trans ((sg_0 c1).trans (rg_f c79)) | exact (fo_r (rg_k (k := 1) (by decide) c16).1).trans ((sg_1 c16).trans (rg_f c79)) | exact (fo_r (rg_k (k := 2) (by decide) c31).1).trans ((sg_2 c31).trans (rg_f c79)) | exact (fo_r (rg_k (k := 3) (by decide) c56).1).trans ((sg_3 c1 c16 c31).trans (rg_f c69)) | exact (fo_l (by rw [rg_4 c1 c16 c31 c56]; decide)).trans (rg_4 c1 c16 c31 c56) | fail) (by first | decide | omega | assumption | exact nb1 (by assumption)) hvσ_13 | fail), (by first | exact tk_eq (k := 1) (by first | exact (fo_r (rg_k (k := 0) (by decide) c1).1).trans ((sg_0 c1).trans (rg_f c79)) | exact (fo_r (rg_k (k := 1) (by decide) c16).1).trans ((sg_1 c16).trans (rg_f c79)) | exact (fo_r (rg_k (k := 2) (by decide) c31).1).trans ((sg_2 c31).trans (rg_f c79)) | exact (fo_r (rg_k (k := 3) (by decide) c56).1).trans ((sg_3 c1 c16 c31).trans (rg_f c69)) | exact (fo_l (by rw [rg_4 c1 c16 c31 c56]; decide)).trans (rg_4 c1 c16 c31 c56) | fail) ht4000_σ_13 | exact tk_eq (k := 1) (by exact hS0) ht4000_σ_13 | fail), (by exact hcFR_σ_13)⟩)
  ·
    refine g_iload_n h dX12_set_4 2 rfl ?_
    refine g_iconst h dX12_set_5 (by decide) ?_
    refine g_bipush h dX12_set_6 (by decide) ?_
    refine g_cspi (rest := []) h (r_isFrom hW mc (nI 1) (nI 9) ) lX12_isFrom mX12_134 (Nat.lt_of_lt_of_le (by decide) (Nat.le_refl _)) (by decide) rfl rfl rfl dX12_set_8 ?_
    refine g_goto h dX12_set_11 ?_
    refine g_istore_n (L' := [(0, .ref (w.1 0)), (1, .int wt), (2, .int mc), (3, .int (b2i (decide ((nI 1) ≤ mc) && decide (mc ≤ (nI 9)))))]) h dX12_set_77 rfl (by decide) rfl ?_
    refine g_iload_n h dX12_set_78 3 rfl ?_
    refine g_ifB_ne h dX12_set_79 (fun c79 => ?_) (fun c79 => ?_)
    ·
      have hS0 : fo (rg wt (nI 0) (nI 3)) (sgS μ wt mc) = 0 := by first | exact (fo_r (rg_k (k := 0) (by decide) c1).1).trans ((sg_0 c1).trans (rg_t c79)) | exact (fo_r (rg_k (k := 1) (by decide) c16).1).trans ((sg_1 c16).trans (rg_t c79)) | exact (fo_r (rg_k (k := 2) (by decide) c31).1).trans ((sg_2 c31).trans (rg_t c79)) | exact (fo_r (rg_k (k := 3) (by decide) c56).1).trans ((sg_3 c1 c16 c31).trans (rg_t c69)) | fail
      obtain ⟨hs1, hs2⟩ := fo_0 hS0
      obtain ⟨ew, hw9⟩ := rg_N (by decide) hs1
      rw [ew]
      show G X w 5 88 [(0, .ref (w.1 0)), (1, .int (nI (toN wt))), (2, .int mc), (3, .int (b2i (decide ((nI 1) ≤ mc) && decide (mc ≤ (nI 9)))))] [] σ
      refine g_aload_n h dX12_set_88 0 rfl ?_
      refine g_iconst h dX12_set_89 (by decide) ?_
      refine g_iload_n h dX12_set_90 1 rfl ?_
      refine g_iaddN h dX12_set_91  ?_
      refine g_cvpi (rest := []) h (r_of hW (3 + toN wt) μ (by assumption) (by omega)) lX12_of mX12_61 (Nat.lt_of_lt_of_le (by decide) (Nat.le_refl _)) (by decide) sc_0 rfl rfl rfl rfl dX12_set_92 ?_
      refine g_istore (L' := [(0, .ref (w.1 0)), (1, .int (nI (toN wt))), (2, .int mc), (3, .int (b2i (decide ((nI 1) ≤ mc) && decide (mc ≤ (nI 9))))), (4, .int (μ (3 + toN wt)))]) h dX12_set_95 rfl (by decide) rfl ?_
      refine g_aload_n h dX12_set_97 0 rfl ?_
      refine g_iconst h dX12_set_98 (by decide) ?_
      refine g_iload_n h dX12_set_99 1 rfl ?_
      refine g_iaddN h dX12_set_100  ?_
      refine g_iload_n h dX12_set_101 2 rfl ?_
      refine g_cvv (rest := []) h (r_puts hW (3 + toN wt) mc (by omega)) lX12_puts mX12_57 (Nat.lt_of_lt_of_le (by decide) (Nat.le_refl _)) (by decide) sc_0 rfl rfl rfl rfl dX12_set_102 (fun σ_14 eσ_14 => ?_)
      have eσ_14_a : σ_14 = upd σ (0 + (3 + toN wt)) mc := eσ_14
      have hcFR_σ_14 : ∀ a, (464 ≤ a ∧ a ≠ 4000 ∨ a = 10) → σ_14 a = σ a := by intro a ha; exact Eq.trans (b := σ a) (by rw [eσ_14_a, upd_ne (by first | omega | (simp only [vb] at *; omega))]) (hcFR_σ a ha)
      obtain ⟨μ_15, eμ_15⟩ : ∃ μ_15 : Nat → Int32, μ_15 = upd μ (3 + toN wt) mc := ⟨_, rfl⟩
      have hvσ_14 : vw 0 σ_14 = μ_15 := by rw [eσ_14_a, eμ_15, vw_in (by omega)]; congr 1
      refine g_aload_n h dX12_set_105 0 rfl ?_
      refine g_iload h dX12_set_106 4 rfl ?_
      refine g_cvi (rest := []) h (r_gives hW (μ (3 + toN wt)) ) lX12_gives mX12_281 (Nat.lt_of_lt_of_le (by decide) (Nat.le_refl _)) (by decide) sc_0 rfl rfl rfl rfl dX12_set_108 (fun σ_16 eσ_16 => ?_)
      have eσ_16_a : σ_16 = upd σ_14 4000 (nI 0) := eσ_16
      have ht4000_σ_16 : σ_16 4000 = (nI 0) := by rw [eσ_16_a]; exact upd_eq
      have hcFR_σ_16 : ∀ a, (464 ≤ a ∧ a ≠ 4000 ∨ a = 10) → σ_16 a = σ a := by intro a ha; exact Eq.trans (b := σ_14 a) (by rw [eσ_16_a, upd_ne (by first | omega | (simp only [vb] at *; omega))]) (hcFR_σ_14 a ha)
      have hvσ_16 : vw 0 σ_16 = μ_15 := by rw [eσ_16_a, vw_out (by omega)]; first | exact hvσ_14 | assumption
      exact g_iret h hQ dX12_set_111 (congrArg (fun z => some (Value.int z)) (show (an (fo (rg wt (nI 0) (nI 3)) (sgS μ wt mc)) (μ (3 + toN wt))) = (μ (3 + toN wt)) by first | exact an_yes (by exact hS0) (by rfl) | exact an_no (k := 0) (by first | exact (fo_r (rg_k (k := 0) (by decide) c1).1).trans ((sg_0 c1).trans (rg_f c79)) | exact (fo_r (rg_k (k := 1) (by decide) c16).1).trans ((sg_1 c16).trans (rg_f c79)) | exact (fo_r (rg_k (k := 2) (by decide) c31).1).trans ((sg_2 c31).trans (rg_f c79)) | exact (fo_r (rg_k (k := 3) (by decide) c56).1).trans ((sg_3 c1 c16 c31).trans (rg_f c69)) | exact (fo_l (by rw [rg_4 c1 c16 c31 c56]; decide)).trans (rg_4 c1 c16 c31 c56) | fail) (by first | decide | omega | assumption | exact nb1 (by assumption)) | fail)) (by exact ⟨(by first | exact pk_yes (by exact hS0) (by rw [hvσ_16, eμ_15]) | exact pk_no (k := 0) (by first | exact (fo_r (rg_k (k := 0) (by decide) c1).1).trans ((sg_0 c1).trans (rg_f c79)) | exact (fo_r (rg_k (k := 1) (by decide) c16).1).trans ((sg_1 c16).trans (rg_f c79)) | exact (fo_r (rg_k (k := 2) (by decide) c31).1).trans ((sg_2 c31).trans (rg_f c79)) | exact (fo_r (rg_k (k := 3) (by decide) c56).1).trans ((sg_3 c1 c16 c31).trans (rg_f c69)) | exact (fo_l (by rw [rg_4 c1 c16 c31 c56]; decide)).trans (rg_4 c1 c16 c31 c56) | fail) (by first | decide | omega | assumption | exact nb1 (by assumption)) hvσ_16 | fail), (by first | exact tk_eq (k := 0) (by first | exact (fo_r (rg_k (k := 0) (by decide) c1).1).trans ((sg_0 c1).trans (rg_f c79)) | exact (fo_r (rg_k (k := 1) (by decide) c16).1).trans ((sg_1 c16).trans (rg_f c79)) | exact (fo_r (rg_k (k := 2) (by decide) c31).1).trans ((sg_2 c31).trans (rg_f c79)) | exact (fo_r (rg_k (k := 3) (by decide) c56).1).trans ((sg_3 c1 c16 c31).trans (rg_f c69)) | exact (fo_l (by rw [rg_4 c1 c16 c31 c56]; decide)).trans (rg_4 c1 c16 c31 c56) | fail) ht4000_σ_16 | exact tk_eq (k := 0) (by exact hS0) ht4000_σ_16 | fail), (by exact hcFR_σ_16)⟩)
    ·
      refine g_aload_n h dX12_set_82 0 rfl ?_
      refine g_iconst h dX12_set_83 (by decide) ?_
      refine g_cvi (rest := []) h (r_refuse hW (nI 1) ) lX12_refuse mX12_272 (Nat.lt_of_lt_of_le (by decide) (Nat.le_refl _)) (by decide) sc_0 rfl rfl rfl rfl dX12_set_84 (fun σ_17 eσ_17 => ?_)
      have eσ_17_a : σ_17 = upd σ 4000 (nI 1) := eσ_17
      have ht4000_σ_17 : σ_17 4000 = (nI 1) := by rw [eσ_17_a]; exact upd_eq
      have hcFR_σ_17 : ∀ a, (464 ≤ a ∧ a ≠ 4000 ∨ a = 10) → σ_17 a = σ a := by intro a ha; exact Eq.trans (b := σ a) (by rw [eσ_17_a, upd_ne (by first | omega | (simp only [vb] at *; omega))]) (hcFR_σ a ha)
      have hvσ_17 : vw 0 σ_17 = μ := by rw [eσ_17_a, vw_out (by omega)]; first | exact hv | assumption
      exact g_iret h hQ dX12_set_87 (congrArg (fun z => some (Value.int z)) (show (an (fo (rg wt (nI 0) (nI 3)) (sgS μ wt mc)) (μ (3 + toN wt))) = (-1) by first | exact an_yes (by exact hS0) (by rfl) | exact an_no (k := 1) (by first | exact (fo_r (rg_k (k := 0) (by decide) c1).1).trans ((sg_0 c1).trans (rg_f c79)) | exact (fo_r (rg_k (k := 1) (by decide) c16).1).trans ((sg_1 c16).trans (rg_f c79)) | exact (fo_r (rg_k (k := 2) (by decide) c31).1).trans ((sg_2 c31).trans (rg_f c79)) | exact (fo_r (rg_k (k := 3) (by decide) c56).1).trans ((sg_3 c1 c16 c31).trans (rg_f c69)) | exact (fo_l (by rw [rg_4 c1 c16 c31 c56]; decide)).trans (rg_4 c1 c16 c31 c56) | fail) (by first | decide | omega | assumption | exact nb1 (by assumption)) | fail)) (by exact ⟨(by first | exact pk_yes (by exact hS0) (by rw [hvσ_17, Nat.add_zero]) | exact pk_no (k := 1) (by first | exact (fo_r (rg_k (k := 0) (by decide) c1).1).trans ((sg_0 c1).trans (rg_f c79)) | exact (fo_r (rg_k (k := 1) (by decide) c16).1).trans ((sg_1 c16).trans (rg_f c79)) | exact (fo_r (rg_k (k := 2) (by decide) c31).1).trans ((sg_2 c31).trans (rg_f c79)) | exact (fo_r (rg_k (k := 3) (by decide) c56).1).trans ((sg_3 c1 c16 c31).trans (rg_f c69)) | exact (fo_l (by rw [rg_4 c1 c16 c31 c56]; decide)).trans (rg_4 c1 c16 c31 c56) | fail) (by first | decide | omega | assumption | exact nb1 (by assumption)) hvσ_17 | fail), (by first | exact tk_eq (k := 1) (by first | exact (fo_r (rg_k (k := 0) (by decide) c1).1).trans ((sg_0 c1).trans (rg_f c79)) | exact (fo_r (rg_k (k := 1) (by decide) c16).1).trans ((sg_1 c16).trans (rg_f c79)) | exact (fo_r (rg_k (k := 2) (by decide) c31).1).trans ((sg_2 c31).trans (rg_f c79)) | exact (fo_r (rg_k (k := 3) (by decide) c56).1).trans ((sg_3 c1 c16 c31).trans (rg_f c69)) | exact (fo_l (by rw [rg_4 c1 c16 c31 c56]; decide)).trans (rg_4 c1 c16 c31 c56) | fail) ht4000_σ_17 | exact tk_eq (k := 1) (by exact hS0) ht4000_σ_17 | fail), (by exact hcFR_σ_17)⟩)

set_option maxRecDepth 100000 in
set_option maxHeartbeats 4000000 in
theorem c_setting {l : Launch} {w : Wd} (hW : Wi w) {σ : Mem} (wt mc : Int32) (μ : Nat → Int32) (hv : vw (vb 0) σ = μ) (hI : MI μ) : MC l w qX11_settingStatus 1 [.ref (w.1 12), .int wt, .int mc] σ (some (.int (nI (sgS μ wt mc)))) (fun σ' => σ' = σ) := by
  refine MC.of hW (by decide +kernel) (Nat.le_of_ble_eq_true rfl) (fun X h hQ hnm => ?_)
  have h : Fx X w cX11_settingStatus 3 RX11 1 := h
  have hQ : Qx X w (some .int) (some (.int (nI (sgS μ wt mc)))) (fun σ' => σ' = σ) := hQ
  have hN8 := mi_8 hI
  show G X w 3 0 [(0, .ref (w.1 12)), (1, .int wt), (2, .int mc)] [] σ
  rcases rg_or (n := 3) wt (by decide) with ⟨hr, ew, hw9⟩ | ⟨hr, hout⟩
  ·
    rw [ew]
    show G X w 3 0 [(0, .ref (w.1 12)), (1, .int (nI (toN wt))), (2, .int mc)] [] σ
    refine g_iload_n h dX11_settingStatus_0 1 rfl ?_
    rcases (show toN wt = 0 ∨ toN wt = 1 ∨ toN wt = 2 ∨ toN wt = 3 by omega) with hc1 | hc1 | hc1 | hc1
    ·
      refine g_tsw (off := 27) (tgt := 28) h dX11_settingStatus_1 (nI 0) (by rw [hc1]) (by decide) (by decide) (by decide +kernel) (by decide) ?_
      refine g_iload_n h dX11_settingStatus_28 2 rfl ?_
      refine g_iconst h dX11_settingStatus_29 (by decide) ?_
      refine g_bipush h dX11_settingStatus_30 (by decide) ?_
      refine g_cspi (rest := []) h (c_rg hW mc (nI 1) (nI 9) ) lX11_rangeStatus mX11_102 (Nat.lt_of_lt_of_le (by decide) (Nat.le_refl _)) (by decide) rfl rfl rfl dX11_settingStatus_32 ?_
      exact g_iret h hQ dX11_settingStatus_35 (congrArg (fun z => some (Value.int z)) (show (nI (sgS μ wt mc)) = (nI (rg mc (nI 1) (nI 9))) by first | exact congrArg _ (sg_3 (out_ne hout (by decide)) (out_ne hout (by decide)) (out_ne hout (by decide))) | exact congrArg _ (sg_0 (by rw [ew, hc1])) | exact congrArg _ (sg_1 (by rw [ew, hc1])) | exact congrArg _ (sg_2 (by rw [ew, hc1])) | exact congrArg _ (sg_3 (by rw [ew, hc1]; decide) (by rw [ew, hc1]; decide) (by rw [ew, hc1]; decide)) | fail | fail)) rfl
    ·
      refine g_tsw (off := 35) (tgt := 36) h dX11_settingStatus_1 (nI 1) (by rw [hc1]) (by decide) (by decide) (by decide +kernel) (by decide) ?_
      refine g_iload_n h dX11_settingStatus_36 2 rfl ?_
      refine g_iconst h dX11_settingStatus_37 (by decide) ?_
      refine g_bipush h dX11_settingStatus_38 (by decide) ?_
      refine g_cspi (rest := []) h (c_rg hW mc (nI 1) (nI 99) ) lX11_rangeStatus mX11_102 (Nat.lt_of_lt_of_le (by decide) (Nat.le_refl _)) (by decide) rfl rfl rfl dX11_settingStatus_40 ?_
      exact g_iret h hQ dX11_settingStatus_43 (congrArg (fun z => some (Value.int z)) (show (nI (sgS μ wt mc)) = (nI (rg mc (nI 1) (nI 99))) by first | exact congrArg _ (sg_3 (out_ne hout (by decide)) (out_ne hout (by decide)) (out_ne hout (by decide))) | exact congrArg _ (sg_0 (by rw [ew, hc1])) | exact congrArg _ (sg_1 (by rw [ew, hc1])) | exact congrArg _ (sg_2 (by rw [ew, hc1])) | exact congrArg _ (sg_3 (by rw [ew, hc1]; decide) (by rw [ew, hc1]; decide) (by rw [ew, hc1]; decide)) | fail | fail)) rfl
    ·
      refine g_tsw (off := 43) (tgt := 44) h dX11_settingStatus_1 (nI 2) (by rw [hc1]) (by decide) (by decide) (by decide +kernel) (by decide) ?_
      refine g_iload_n h dX11_settingStatus_44 2 rfl ?_
      refine g_iconst h dX11_settingStatus_45 (by decide) ?_
      refine g_aload_n h dX11_settingStatus_46 0 rfl ?_
      refine g_getr h dX11_settingStatus_47 gX11_23 sc_12 rfl ?_
      refine g_geti h dX11_settingStatus_50 gX11_156 (sM_0 (m := 0) (by decide)) rfl ?_
      refine g_top (y := μ 6) (vw_pic (b := (vb 0)) (k := 6) (by first | exact hv | assumption) (by omega)) ?_
      refine g_top (y := nI (nA μ 6)) (mi_6 (by assumption)) ?_
      have b9_50 : nA μ 6 < 1000 := mb_6 (by assumption)
      refine g_cspi (rest := [.int mc]) h (j_max hW 1 (nA μ 6) (by omega) (by omega)) lJ9_max_7cf53 mX11_389 (Nat.lt_of_lt_of_le (by decide) (Nat.le_refl _)) (by decide) rfl rfl rfl dX11_settingStatus_53 ?_
      refine g_sipush h dX11_settingStatus_56 (by decide) ?_
      refine g_cspi (rest := []) h (c_rg hW mc (nI (max 1 (nA μ 6))) (nI 999) ) lX11_rangeStatus mX11_102 (Nat.lt_of_lt_of_le (by decide) (Nat.le_refl _)) (by decide) rfl rfl rfl dX11_settingStatus_59 ?_
      exact g_iret h hQ dX11_settingStatus_62 (congrArg (fun z => some (Value.int z)) (show (nI (sgS μ wt mc)) = (nI (rg mc (nI (max 1 (nA μ 6))) (nI 999))) by first | exact congrArg _ (sg_3 (out_ne hout (by decide)) (out_ne hout (by decide)) (out_ne hout (by decide))) | exact congrArg _ (sg_0 (by rw [ew, hc1])) | exact congrArg _ (sg_1 (by rw [ew, hc1])) | exact congrArg _ (sg_2 (by rw [ew, hc1])) | exact congrArg _ (sg_3 (by rw [ew, hc1]; decide) (by rw [ew, hc1]; decide) (by rw [ew, hc1]; decide)) | fail | fail)) rfl
    ·
      refine g_tswOut (tgt := 63) h dX11_settingStatus_1 (by first | omega | (rw [hc1]; decide) | fail) (by decide) ?_
      refine g_iload_n h dX11_settingStatus_63 2 rfl ?_
      refine g_iconst h dX11_settingStatus_64 (by decide) ?_
      refine g_aload_n h dX11_settingStatus_65 0 rfl ?_
      refine g_getr h dX11_settingStatus_66 gX11_23 sc_12 rfl ?_
      refine g_geti h dX11_settingStatus_69 gX11_153 (sM_0 (m := 0) (by decide)) rfl ?_
      refine g_top (y := μ 5) (vw_pic (b := (vb 0)) (k := 5) (by first | exact hv | assumption) (by omega)) ?_
      refine g_top (y := nI (nA μ 5)) (mi_5 (by assumption)) ?_
      have b9_69 : nA μ 5 < 1000 := mb_5 (by assumption)
      refine g_cspi (rest := []) h (c_rg hW mc (nI 0) (nI (nA μ 5)) ) lX11_rangeStatus mX11_102 (Nat.lt_of_lt_of_le (by decide) (Nat.le_refl _)) (by decide) rfl rfl rfl dX11_settingStatus_72 ?_
      exact g_iret h hQ dX11_settingStatus_75 (congrArg (fun z => some (Value.int z)) (show (nI (sgS μ wt mc)) = (nI (rg mc (nI 0) (nI (nA μ 5)))) by first | exact congrArg _ (sg_3 (out_ne hout (by decide)) (out_ne hout (by decide)) (out_ne hout (by decide))) | exact congrArg _ (sg_0 (by rw [ew, hc1])) | exact congrArg _ (sg_1 (by rw [ew, hc1])) | exact congrArg _ (sg_2 (by rw [ew, hc1])) | exact congrArg _ (sg_3 (by rw [ew, hc1]; decide) (by rw [ew, hc1]; decide) (by rw [ew, hc1]; decide)) | fail | fail)) rfl
  ·
    show G X w 3 0 [(0, .ref (w.1 12)), (1, .int wt), (2, .int mc)] [] σ
    refine g_iload_n h dX11_settingStatus_0 1 rfl ?_
    refine g_tswOut (tgt := 63) h dX11_settingStatus_1 (by first | omega | (rw [hc1]; decide) | fail) (by decide) ?_
    refine g_iload_n h dX11_settingStatus_63 2 rfl ?_
    refine g_iconst h dX11_settingStatus_64 (by decide) ?_
    refine g_aload_n h dX11_settingStatus_65 0 rfl ?_
    refine g_getr h dX11_settingStatus_66 gX11_23 sc_12 rfl ?_
    refine g_geti h dX11_settingStatus_69 gX11_153 (sM_0 (m := 0) (by decide)) rfl ?_
    refine g_top (y := μ 5) (vw_pic (b := (vb 0)) (k := 5) (by first | exact hv | assumption) (by omega)) ?_
    refine g_top (y := nI (nA μ 5)) (mi_5 (by assumption)) ?_
    have b9_69 : nA μ 5 < 1000 := mb_5 (by assumption)
    refine g_cspi (rest := []) h (c_rg hW mc (nI 0) (nI (nA μ 5)) ) lX11_rangeStatus mX11_102 (Nat.lt_of_lt_of_le (by decide) (Nat.le_refl _)) (by decide) rfl rfl rfl dX11_settingStatus_72 ?_
    exact g_iret h hQ dX11_settingStatus_75 (congrArg (fun z => some (Value.int z)) (show (nI (sgS μ wt mc)) = (nI (rg mc (nI 0) (nI (nA μ 5)))) by first | exact congrArg _ (sg_3 (out_ne hout (by decide)) (out_ne hout (by decide)) (out_ne hout (by decide))) | exact congrArg _ (sg_0 (by rw [ew, hc1])) | exact congrArg _ (sg_1 (by rw [ew, hc1])) | exact congrArg _ (sg_2 (by rw [ew, hc1])) | exact congrArg _ (sg_3 (by rw [ew, hc1]; decide) (by rw [ew, hc1]; decide) (by rw [ew, hc1]; decide)) | fail | fail)) rfl

set_option maxRecDepth 100000 in
set_option maxHeartbeats 4000000 in
theorem p_set {l : Launch} {w : Wd} (hW : Wi w) {σ : Mem} (wt : Int32) (mc : Int32)  (μ : Nat → Int32) (hv : vw (vb 0) σ = μ) (hI : MI μ) : MC l w qX11_set 2 [.ref (w.1 12), .int wt, .int mc] σ (some (.int (an (fo (rg wt (nI 0) (nI 3)) (sgS μ wt mc)) (μ (3 + toN wt))))) (fun σ' => (vw (vb 0) σ' = pk0 (fo (rg wt (nI 0) (nI 3)) (sgS μ wt mc)) (upd μ (3 + toN wt) mc) μ) ∧ (σ' 14000 = (nI (fo (rg wt (nI 0) (nI 3)) (sgS μ wt mc)))) ∧ (∀ a, ((a < 10000 ∨ 10464 ≤ a) ∧ a ≠ 14000) → σ' a = σ a)) := by
  refine MC.of hW (by decide +kernel) (Nat.le_of_ble_eq_true rfl) (fun X h hQ hnm => ?_)
  have h : Fx X w cX11_set 4 RX11 2 := h
  have hQ : Qx X w (some .int) (some (.int (an (fo (rg wt (nI 0) (nI 3)) (sgS μ wt mc)) (μ (3 + toN wt))))) (fun σ' => (vw (vb 0) σ' = pk0 (fo (rg wt (nI 0) (nI 3)) (sgS μ wt mc)) (upd μ (3 + toN wt) mc) μ) ∧ (σ' 14000 = (nI (fo (rg wt (nI 0) (nI 3)) (sgS μ wt mc)))) ∧ (∀ a, ((a < 10000 ∨ 10464 ≤ a) ∧ a ≠ 14000) → σ' a = σ a)) := hQ
  have hN8 := mi_8 hI
  have hvb0 : vb 0 = 10000 := rfl
  have hcFR_σ : ∀ a, ((a < 10000 ∨ 10464 ≤ a) ∧ a ≠ 14000) → σ a = σ a := fun _ _ => rfl
  show G X w 4 0 [(0, .ref (w.1 12)), (1, .int wt), (2, .int mc)] [] σ
  refine g_aload_n h dX11_set_0 0 rfl ?_
  refine g_iload_n h dX11_set_1 1 rfl ?_
  refine g_iconst h dX11_set_2 (by decide) ?_
  refine g_iconst h dX11_set_3 (by decide) ?_
  refine g_cspi (rest := [.ref (w.1 12)]) h (c_rg hW wt (nI 0) (nI 3) ) lX11_rangeStatus mX11_102 (Nat.lt_of_lt_of_le (by decide) (Nat.le_refl _)) (by decide) rfl rfl rfl dX11_set_4 ?_
  refine g_aload_n h dX11_set_7 0 rfl ?_
  refine g_iload_n h dX11_set_8 1 rfl ?_
  refine g_iload_n h dX11_set_9 2 rfl ?_
  refine g_cvpi (rest := [.int (nI (rg wt (nI 0) (nI 3))), .ref (w.1 12)]) h (c_setting hW wt mc μ (by first | exact hv | assumption | fail) (by assumption)) lX11_settingStatus mX11_376 (Nat.lt_of_lt_of_le (by decide) (Nat.le_refl _)) (by decide) sc_12 rfl rfl rfl rfl dX11_set_10 ?_
  refine g_cspi (rest := [.ref (w.1 12)]) h (c_fo hW (rg wt (nI 0) (nI 3)) (sgS μ wt mc) (by repeat (first | omega | exact rg_lt | exact ns_lt | exact ps_lt | exact gst_lt | exact ofS_lt | exact if_lt (by decide) (by decide) | apply fo_lt)) (by exact sg_lt)) lX11_firstOf mX11_163 (Nat.lt_of_lt_of_le (by decide) (Nat.le_refl _)) (by decide) rfl rfl rfl dX11_set_13 ?_
  refine g_cvi (rest := []) h (c_fails hW (fo (rg wt (nI 0) (nI 3)) (sgS μ wt mc)) (by exact fo_lt rg_lt sg_lt)) lX11_fails mX11_106 (Nat.lt_of_lt_of_le (by decide) (Nat.le_refl _)) (by decide) sc_12 rfl rfl rfl rfl dX11_set_16 (fun σ_1 eσ_1 => ?_)
  obtain ⟨eσ_1_a, eσ_1_b⟩ := eσ_1
  have eσ_1_a : σ_1 14000 = (nI (fo (rg wt (nI 0) (nI 3)) (sgS μ wt mc))) := eσ_1_a
  have eσ_1_b : ∀ a, (a ≠ 14000) → σ_1 a = σ a := eσ_1_b
  have ht14000_σ_1 : σ_1 14000 = (nI (fo (rg wt (nI 0) (nI 3)) (sgS μ wt mc))) := eσ_1_a
  have hcFR_σ_1 : ∀ a, ((a < 10000 ∨ 10464 ≤ a) ∧ a ≠ 14000) → σ_1 a = σ a := by intro a ha; exact Eq.trans (b := σ a) (eσ_1_b a (by first | omega | (simp only [vb] at *; omega))) (hcFR_σ a ha)
  have hvσ_1 : vw (vb 0) σ_1 = μ := by rw [vw_fr (σ := σ) (fun j _ _ => eσ_1_b _ (by first | omega | (simp only [vb] at *; omega)))]; first | exact hv | assumption
  refine g_ifB_eq h dX11_set_19 (fun c19 => ?_) (fun c19 => ?_)
  ·
    have hS0 := nb0 c19
    obtain ⟨hs1, hs2⟩ := fo_0 hS0
    obtain ⟨ew, hw9⟩ := rg_N (by decide) hs1
    rw [ew]
    show G X w 4 24 [(0, .ref (w.1 12)), (1, .int (nI (toN wt))), (2, .int mc)] [] σ_1
    refine g_iload_n h dX11_set_24 1 rfl ?_
    rcases (show toN wt = 0 ∨ toN wt = 1 ∨ toN wt = 2 ∨ toN wt = 3 by omega) with hc25 | hc25 | hc25 | hc25
    ·
      refine g_tsw (off := 27) (tgt := 52) h dX11_set_25 (nI 0) (by rw [hc25]) (by decide) (by decide) (by decide +kernel) (by decide) ?_
      refine g_aload_n h dX11_set_52 0 rfl ?_
      refine g_getr h dX11_set_53 gX11_23 sc_12 rfl ?_
      refine g_geti h dX11_set_56 gX11_129 (sM_0 (m := 0) (by decide)) rfl ?_
      refine g_top (y := μ 3) (vw_pic (b := (vb 0)) (k := 3) (by first | exact hvσ_1 | assumption) (by omega)) ?_
      refine g_istore_n (L' := [(0, .ref (w.1 12)), (1, .int (nI (toN wt))), (2, .int mc), (3, .int (μ 3))]) h dX11_set_59 rfl (by decide) rfl ?_
      refine g_aload_n h dX11_set_60 0 rfl ?_
      refine g_getr h dX11_set_61 gX11_23 sc_12 rfl ?_
      refine g_iload_n h dX11_set_64 2 rfl ?_
      refine g_puti h dX11_set_65 pX11_129 (sM_0 (m := 0) (by decide)) rfl ?_
      refine g_nm (fun σ_2 eσ_2 => ?_)
      have eσ_2 : σ_2 = upd σ_1 ((vb 0) + 3) mc := eσ_2
      have ht14000_σ_2 : σ_2 14000 = (nI (fo (rg wt (nI 0) (nI 3)) (sgS μ wt mc))) := by rw [eσ_2, upd_ne (by first | omega | (simp only [vb] at *; omega))]; first | exact ht14000_σ_1 | assumption
      have hcFR_σ_2 : ∀ a, ((a < 10000 ∨ 10464 ≤ a) ∧ a ≠ 14000) → σ_2 a = σ a := by intro a ha; exact Eq.trans (b := σ_1 a) (by rw [eσ_2, upd_ne (by first | omega | (simp only [vb] at *; omega))]) (hcFR_σ_1 a ha)
      obtain ⟨μ_3, eμ_3⟩ : ∃ μ_3 : Nat → Int32, μ_3 = upd μ 3 mc := ⟨_, rfl⟩
      have hvσ_2 : vw (vb 0) σ_2 = μ_3 := by rw [eσ_2, eμ_3, vw_in (by omega)]; congr 1
      refine g_iload_n h dX11_set_68 3 rfl ?_
      exact g_iret h hQ dX11_set_69 (congrArg (fun z => some (Value.int z)) (show (an (fo (rg wt (nI 0) (nI 3)) (sgS μ wt mc)) (μ (3 + toN wt))) = (μ 3) by first | exact an_yes (by exact hS0) (by exact congrArg (fun q => μ (3 + q)) hc25) | exact an_no (k := (fo (rg wt (nI 0) (nI 3)) (sgS μ wt mc))) (by first | rfl | fail) (by first | decide | omega | assumption | exact nb1 (by assumption)) | fail)) (by exact ⟨(by first | exact pk_yes (by exact hS0) (by rw [hvσ_2, eμ_3]; exact congrArg (fun q => upd μ q mc) (show _ = 3 + toN wt by omega)) | exact pk_no (k := (fo (rg wt (nI 0) (nI 3)) (sgS μ wt mc))) (by first | rfl | fail) (by first | decide | omega | assumption | exact nb1 (by assumption)) hvσ_2 | fail), (by first | exact tk_eq (k := (fo (rg wt (nI 0) (nI 3)) (sgS μ wt mc))) (by first | rfl | fail) ht14000_σ_2 | exact tk_eq (k := (fo (rg wt (nI 0) (nI 3)) (sgS μ wt mc))) (by exact hS0) ht14000_σ_2 | fail), (by exact hcFR_σ_2)⟩)
    ·
      refine g_tsw (off := 45) (tgt := 70) h dX11_set_25 (nI 1) (by rw [hc25]) (by decide) (by decide) (by decide +kernel) (by decide) ?_
      refine g_aload_n h dX11_set_70 0 rfl ?_
      refine g_getr h dX11_set_71 gX11_23 sc_12 rfl ?_
      refine g_geti h dX11_set_74 gX11_132 (sM_0 (m := 0) (by decide)) rfl ?_
      refine g_top (y := μ 4) (vw_pic (b := (vb 0)) (k := 4) (by first | exact hvσ_1 | assumption) (by omega)) ?_
      refine g_istore_n (L' := [(0, .ref (w.1 12)), (1, .int (nI (toN wt))), (2, .int mc), (3, .int (μ 4))]) h dX11_set_77 rfl (by decide) rfl ?_
      refine g_aload_n h dX11_set_78 0 rfl ?_
      refine g_getr h dX11_set_79 gX11_23 sc_12 rfl ?_
      refine g_iload_n h dX11_set_82 2 rfl ?_
      refine g_puti h dX11_set_83 pX11_132 (sM_0 (m := 0) (by decide)) rfl ?_
      refine g_nm (fun σ_4 eσ_4 => ?_)
      have eσ_4 : σ_4 = upd σ_1 ((vb 0) + 4) mc := eσ_4
      have ht14000_σ_4 : σ_4 14000 = (nI (fo (rg wt (nI 0) (nI 3)) (sgS μ wt mc))) := by rw [eσ_4, upd_ne (by first | omega | (simp only [vb] at *; omega))]; first | exact ht14000_σ_1 | assumption
      have hcFR_σ_4 : ∀ a, ((a < 10000 ∨ 10464 ≤ a) ∧ a ≠ 14000) → σ_4 a = σ a := by intro a ha; exact Eq.trans (b := σ_1 a) (by rw [eσ_4, upd_ne (by first | omega | (simp only [vb] at *; omega))]) (hcFR_σ_1 a ha)
      obtain ⟨μ_5, eμ_5⟩ : ∃ μ_5 : Nat → Int32, μ_5 = upd μ 4 mc := ⟨_, rfl⟩
      have hvσ_4 : vw (vb 0) σ_4 = μ_5 := by rw [eσ_4, eμ_5, vw_in (by omega)]; congr 1
      refine g_iload_n h dX11_set_86 3 rfl ?_
      exact g_iret h hQ dX11_set_87 (congrArg (fun z => some (Value.int z)) (show (an (fo (rg wt (nI 0) (nI 3)) (sgS μ wt mc)) (μ (3 + toN wt))) = (μ 4) by first | exact an_yes (by exact hS0) (by exact congrArg (fun q => μ (3 + q)) hc25) | exact an_no (k := (fo (rg wt (nI 0) (nI 3)) (sgS μ wt mc))) (by first | rfl | fail) (by first | decide | omega | assumption | exact nb1 (by assumption)) | fail)) (by exact ⟨(by first | exact pk_yes (by exact hS0) (by rw [hvσ_4, eμ_5]; exact congrArg (fun q => upd μ q mc) (show _ = 3 + toN wt by omega)) | exact pk_no (k := (fo (rg wt (nI 0) (nI 3)) (sgS μ wt mc))) (by first | rfl | fail) (by first | decide | omega | assumption | exact nb1 (by assumption)) hvσ_4 | fail), (by first | exact tk_eq (k := (fo (rg wt (nI 0) (nI 3)) (sgS μ wt mc))) (by first | rfl | fail) ht14000_σ_4 | exact tk_eq (k := (fo (rg wt (nI 0) (nI 3)) (sgS μ wt mc))) (by exact hS0) ht14000_σ_4 | fail), (by exact hcFR_σ_4)⟩)
    ·
      refine g_tsw (off := 63) (tgt := 88) h dX11_set_25 (nI 2) (by rw [hc25]) (by decide) (by decide) (by decide +kernel) (by decide) ?_
      refine g_aload_n h dX11_set_88 0 rfl ?_
      refine g_getr h dX11_set_89 gX11_23 sc_12 rfl ?_
      refine g_geti h dX11_set_92 gX11_153 (sM_0 (m := 0) (by decide)) rfl ?_
      refine g_top (y := μ 5) (vw_pic (b := (vb 0)) (k := 5) (by first | exact hvσ_1 | assumption) (by omega)) ?_
      refine g_istore_n (L' := [(0, .ref (w.1 12)), (1, .int (nI (toN wt))), (2, .int mc), (3, .int (μ 5))]) h dX11_set_95 rfl (by decide) rfl ?_
      refine g_aload_n h dX11_set_96 0 rfl ?_
      refine g_getr h dX11_set_97 gX11_23 sc_12 rfl ?_
      refine g_iload_n h dX11_set_100 2 rfl ?_
      refine g_puti h dX11_set_101 pX11_153 (sM_0 (m := 0) (by decide)) rfl ?_
      refine g_nm (fun σ_6 eσ_6 => ?_)
      have eσ_6 : σ_6 = upd σ_1 ((vb 0) + 5) mc := eσ_6
      have ht14000_σ_6 : σ_6 14000 = (nI (fo (rg wt (nI 0) (nI 3)) (sgS μ wt mc))) := by rw [eσ_6, upd_ne (by first | omega | (simp only [vb] at *; omega))]; first | exact ht14000_σ_1 | assumption
      have hcFR_σ_6 : ∀ a, ((a < 10000 ∨ 10464 ≤ a) ∧ a ≠ 14000) → σ_6 a = σ a := by intro a ha; exact Eq.trans (b := σ_1 a) (by rw [eσ_6, upd_ne (by first | omega | (simp only [vb] at *; omega))]) (hcFR_σ_1 a ha)
      obtain ⟨μ_7, eμ_7⟩ : ∃ μ_7 : Nat → Int32, μ_7 = upd μ 5 mc := ⟨_, rfl⟩
      have hvσ_6 : vw (vb 0) σ_6 = μ_7 := by rw [eσ_6, eμ_7, vw_in (by omega)]; congr 1
      refine g_iload_n h dX11_set_104 3 rfl ?_
      exact g_iret h hQ dX11_set_105 (congrArg (fun z => some (Value.int z)) (show (an (fo (rg wt (nI 0) (nI 3)) (sgS μ wt mc)) (μ (3 + toN wt))) = (μ 5) by first | exact an_yes (by exact hS0) (by exact congrArg (fun q => μ (3 + q)) hc25) | exact an_no (k := (fo (rg wt (nI 0) (nI 3)) (sgS μ wt mc))) (by first | rfl | fail) (by first | decide | omega | assumption | exact nb1 (by assumption)) | fail)) (by exact ⟨(by first | exact pk_yes (by exact hS0) (by rw [hvσ_6, eμ_7]; exact congrArg (fun q => upd μ q mc) (show _ = 3 + toN wt by omega)) | exact pk_no (k := (fo (rg wt (nI 0) (nI 3)) (sgS μ wt mc))) (by first | rfl | fail) (by first | decide | omega | assumption | exact nb1 (by assumption)) hvσ_6 | fail), (by first | exact tk_eq (k := (fo (rg wt (nI 0) (nI 3)) (sgS μ wt mc))) (by first | rfl | fail) ht14000_σ_6 | exact tk_eq (k := (fo (rg wt (nI 0) (nI 3)) (sgS μ wt mc))) (by exact hS0) ht14000_σ_6 | fail), (by exact hcFR_σ_6)⟩)
    ·
      refine g_tswOut (tgt := 106) h dX11_set_25 (by rw [hc25]; decide) (by decide) ?_
      refine g_aload_n h dX11_set_106 0 rfl ?_
      refine g_getr h dX11_set_107 gX11_23 sc_12 rfl ?_
      refine g_geti h dX11_set_110 gX11_156 (sM_0 (m := 0) (by decide)) rfl ?_
      refine g_top (y := μ 6) (vw_pic (b := (vb 0)) (k := 6) (by first | exact hvσ_1 | assumption) (by omega)) ?_
      refine g_istore_n (L' := [(0, .ref (w.1 12)), (1, .int (nI (toN wt))), (2, .int mc), (3, .int (μ 6))]) h dX11_set_113 rfl (by decide) rfl ?_
      refine g_aload_n h dX11_set_114 0 rfl ?_
      refine g_getr h dX11_set_115 gX11_23 sc_12 rfl ?_
      refine g_iload_n h dX11_set_118 2 rfl ?_
      refine g_puti h dX11_set_119 pX11_156 (sM_0 (m := 0) (by decide)) rfl ?_
      refine g_nm (fun σ_8 eσ_8 => ?_)
      have eσ_8 : σ_8 = upd σ_1 ((vb 0) + 6) mc := eσ_8
      have ht14000_σ_8 : σ_8 14000 = (nI (fo (rg wt (nI 0) (nI 3)) (sgS μ wt mc))) := by rw [eσ_8, upd_ne (by first | omega | (simp only [vb] at *; omega))]; first | exact ht14000_σ_1 | assumption
      have hcFR_σ_8 : ∀ a, ((a < 10000 ∨ 10464 ≤ a) ∧ a ≠ 14000) → σ_8 a = σ a := by intro a ha; exact Eq.trans (b := σ_1 a) (by rw [eσ_8, upd_ne (by first | omega | (simp only [vb] at *; omega))]) (hcFR_σ_1 a ha)
      obtain ⟨μ_9, eμ_9⟩ : ∃ μ_9 : Nat → Int32, μ_9 = upd μ 6 mc := ⟨_, rfl⟩
      have hvσ_8 : vw (vb 0) σ_8 = μ_9 := by rw [eσ_8, eμ_9, vw_in (by omega)]; congr 1
      refine g_iload_n h dX11_set_122 3 rfl ?_
      exact g_iret h hQ dX11_set_123 (congrArg (fun z => some (Value.int z)) (show (an (fo (rg wt (nI 0) (nI 3)) (sgS μ wt mc)) (μ (3 + toN wt))) = (μ 6) by first | exact an_yes (by exact hS0) (by exact congrArg (fun q => μ (3 + q)) hc25) | exact an_no (k := (fo (rg wt (nI 0) (nI 3)) (sgS μ wt mc))) (by first | rfl | fail) (by first | decide | omega | assumption | exact nb1 (by assumption)) | fail)) (by exact ⟨(by first | exact pk_yes (by exact hS0) (by rw [hvσ_8, eμ_9]; exact congrArg (fun q => upd μ q mc) (show _ = 3 + toN wt by omega)) | exact pk_no (k := (fo (rg wt (nI 0) (nI 3)) (sgS μ wt mc))) (by first | rfl | fail) (by first | decide | omega | assumption | exact nb1 (by assumption)) hvσ_8 | fail), (by first | exact tk_eq (k := (fo (rg wt (nI 0) (nI 3)) (sgS μ wt mc))) (by first | rfl | fail) ht14000_σ_8 | exact tk_eq (k := (fo (rg wt (nI 0) (nI 3)) (sgS μ wt mc))) (by exact hS0) ht14000_σ_8 | fail), (by exact hcFR_σ_8)⟩)
  ·
    refine g_iconstv h dX11_set_22 (v := (-1)) (by decide) ?_
    exact g_iret h hQ dX11_set_23 (congrArg (fun z => some (Value.int z)) (show (an (fo (rg wt (nI 0) (nI 3)) (sgS μ wt mc)) (μ (3 + toN wt))) = (-1) by first | exact an_yes (by exact hS0) (by exact congrArg (fun q => μ (3 + q)) hc25) | exact an_no (k := (fo (rg wt (nI 0) (nI 3)) (sgS μ wt mc))) (by first | rfl | fail) (by first | decide | omega | assumption | exact nb1 (by assumption)) | fail)) (by exact ⟨(by first | exact pk_yes (by exact hS0) (by rw [hvσ_1, Nat.add_zero]; exact congrArg (fun q => upd μ q mc) (show _ = 3 + toN wt by omega)) | exact pk_no (k := (fo (rg wt (nI 0) (nI 3)) (sgS μ wt mc))) (by first | rfl | fail) (by first | decide | omega | assumption | exact nb1 (by assumption)) hvσ_1 | fail), (by first | exact tk_eq (k := (fo (rg wt (nI 0) (nI 3)) (sgS μ wt mc))) (by first | rfl | fail) ht14000_σ_1 | exact tk_eq (k := (fo (rg wt (nI 0) (nI 3)) (sgS μ wt mc))) (by exact hS0) ht14000_σ_1 | fail), (by exact hcFR_σ_1)⟩)
