/-! a line, the tape, load: the reference's -/
def TD (σ : Mem) (b5 b6 : Bool) : Prop := tb (σ 5010) 5 = b5 ∧ tb (σ 5010) 6 = b6
theorem TD.fr {σ σ' : Mem} {b5 b6 : Bool} (h : TD σ b5 b6) (f : σ' 5010 = σ 5010) : TD σ' b5 b6 := ⟨by rw [f]; exact h.1, by rw [f]; exact h.2⟩
theorem td_0 {σ : Mem} (h : σ 5010 = nI 0) : TD σ false false := ⟨by rw [h]; exact tb_n0 _, by rw [h]; exact tb_n0 _⟩
theorem td_s {σ σ' : Mem} {b5 b6 : Bool} {k : Nat} (h : TD σ b5 b6) (hk : k < 8) (e : σ' = upd σ 5010 (σ 5010 ||| bt1 k)) : TD σ' (b5 || decide (k = 5)) (b6 || decide (k = 6)) := by
  have e2 : σ' 5010 = σ 5010 ||| bt1 k := by rw [e]; exact upd_eq
  refine ⟨?_, ?_⟩
  · rw [e2, tb_or, h.1, tb_bt1 (by omega)]
    congr 1
    exact decide_eq_decide.mpr ⟨fun q => q.symm, fun q => q.symm⟩
  · rw [e2, tb_or, h.2, tb_bt1 (by omega)]
    congr 1
    exact decide_eq_decide.mpr ⟨fun q => q.symm, fun q => q.symm⟩
theorem td_y {σ : Mem} {b5 b6 : Bool} {k : Nat} (h : TD σ b5 b6) (hk : k = 5 ∨ k = 6) (c : tb (σ 5010) k = true) : told9 b5 b6 k = true := by
  unfold told9
  rcases hk with rfl | rfl
  · rw [← h.1, c]; rfl
  · rw [← h.2, c]; cases b5 <;> rfl
theorem td_n {σ : Mem} {b5 b6 : Bool} {k : Nat} (h : TD σ b5 b6) (hk : k = 5 ∨ k = 6) (c : tb (σ 5010) k = false) : ¬ told9 b5 b6 k = true := by
  unfold told9
  rcases hk with rfl | rfl
  · rw [← h.1, c]; simp
  · rw [← h.2, c]; cases b5 <;> simp
theorem td_n2 {b5 b6 : Bool} {k : Nat} (h5 : k ≠ 5) (h6 : k ≠ 6) : ¬ told9 b5 b6 k = true := by
  unfold told9
  rw [decide_eq_false h5, decide_eq_false h6]
  simp
section LN
variable {x : Nat → Nat} {L e k k' : Nat} {μ : Nat → Int32} {b5 b6 : Bool}
theorem ky_some (h : kyO x L e = some k) : txK x L e = 1 ∧ txW x L e = some k := by
  unfold kyO at h
  by_cases c : txK x L e = 1
  · rw [if_pos c] at h
    exact ⟨c, h⟩
  · rw [if_neg c] at h
    cases h
theorem ln_n (h : kyO x L e = none) : ln9 x L (0, e, μ, b5, b6) = (tff (txK x L e) 2, e, μ, b5, b6) := by
  unfold kyO at h
  by_cases c : txK x L e = 1
  · rw [if_pos c] at h
    rw [ln9_k1 (s := (0, e, μ, b5, b6)) c h, show tff (txK x L e) 2 = 2 from by rw [c]; rfl]
  · rw [ln9_k0 (s := (0, e, μ, b5, b6)) c]
    show (tf9 (txK x L e) 1, e, μ, b5, b6) = _
    rw [tf9_n c]
theorem ln_f (h1 : txK x L e = 1) (h2 : txW x L e = some k) (h3 : ¬ told9 b5 b6 k = true) (ek : k = k') (hq : (ar9 x L μ k' (na9 k') 0 0 (txE x L e)).1 ≠ 0) : ln9 x L (0, e, μ, b5, b6) = ((ar9 x L μ k' (na9 k') 0 0 (txE x L e)).1, (ar9 x L μ k' (na9 k') 0 0 (txE x L e)).2, μ, b5, b6) := by
  subst ek
  exact (ln9_k3 (s := (0, e, μ, b5, b6)) h1 h2 h3).trans (lk9_n hq)
theorem ln_y (h1 : txK x L e = 1) (h2 : txW x L e = some k) (h3 : ¬ told9 b5 b6 k = true) (ek : k = k') (hq : (ar9 x L μ k' (na9 k') 0 0 (txE x L e)).1 = 0) : ln9 x L (0, e, μ, b5, b6) = (tf9 (txK x L (ar9 x L μ k' (na9 k') 0 0 (txE x L e)).2) 3, cl9 x L (ar9 x L μ k' (na9 k') 0 0 (txE x L e)).2, EF μ k' (txV x L (txE x L e)) (txV x L (txE x L (txE x L e))) (txV x L (txE x L (txE x L (txE x L e)))), b5 || decide (k = 5), b6 || decide (k = 6)) := by
  subst ek
  exact (ln9_k3 (s := (0, e, μ, b5, b6)) h1 h2 h3).trans (lk9_y hq)
end LN
theorem kb_k {bo : Bool} {k : Nat} (h : bo = decide (k = 2)) (hk : k = 2 ∨ k = 3) : k = kb bo := by
  subst h
  rcases hk with rfl | rfl <;> rfl

set_option maxRecDepth 100000 in
set_option maxHeartbeats 16000000 in
theorem r_aLine {l : Launch} {w : Wd} (hW : Wi w) {σ : Mem} (b5 b6 : Bool) (e L : Nat) (x : Nat → Nat) (p0 : Int32) (μ : Nat → Int32) (he : e ≤ L) (hL : L ≤ 400) (hv : vw 0 σ = μ) (hI : MI μ) (ht5004_σ : σ 5004 = (nI L)) (ht5005_σ : σ 5005 = (nI (kr (txK x L e)))) (ht5006_σ : σ 5006 = (nI (txS x L e))) (ht5007_σ : σ 5007 = (nI (txE x L e))) (ht5009_σ : σ 5009 = (nI 0)) (ht4004_σ : σ 4004 = p0) (hcTX_σ : TX 5600 σ L x) (hcVL_σ : VL σ x L e) (hcTD_σ : TD σ b5 b6) : MC l w qX12_aLine 5 [.ref (w.1 0)] σ (some (.int (b2i (decide ((ln9 x L (0, e, μ, b5, b6)).1 = 0))))) (fun σ' => (vw 0 σ' = (ln9 x L (0, e, μ, b5, b6)).2.2.1) ∧ (σ' 5004 = (nI L)) ∧ (σ' 5005 = (nI (kr (txK x L (ln9 x L (0, e, μ, b5, b6)).2.1)))) ∧ (σ' 5006 = (nI (txS x L (ln9 x L (0, e, μ, b5, b6)).2.1))) ∧ (σ' 5007 = (nI (txE x L (ln9 x L (0, e, μ, b5, b6)).2.1))) ∧ (σ' 5009 = (nI ((ln9 x L (0, e, μ, b5, b6)).1))) ∧ (σ' 4004 = (if (ln9 x L (0, e, μ, b5, b6)).1 = 0 then p0 else nI (txS x L (ln9 x L (0, e, μ, b5, b6)).2.1))) ∧ (TX 5600 σ' L x) ∧ (VL σ' x L (ln9 x L (0, e, μ, b5, b6)).2.1) ∧ ((ln9 x L (0, e, μ, b5, b6)).1 = 0 → TD σ' (ln9 x L (0, e, μ, b5, b6)).2.2.2.1 (ln9 x L (0, e, μ, b5, b6)).2.2.2.2) ∧ (∀ a, (464 ≤ a ∧ a ≠ 5010 ∧ a ≠ 5009 ∧ a ≠ 4004 ∧ (a < 5005 ∨ 5008 < a) ∨ a = 10) → σ' a = σ a)) := by
  refine MC.of hW (by decide +kernel) (Nat.le_of_ble_eq_true rfl) (fun X h hQ hnm => ?_)
  have h : Fx X w cX12_aLine 2 RX12 5 := h
  have hQ : Qx X w (some .boolean) (some (.int (b2i (decide ((ln9 x L (0, e, μ, b5, b6)).1 = 0))))) (fun σ' => (vw 0 σ' = (ln9 x L (0, e, μ, b5, b6)).2.2.1) ∧ (σ' 5004 = (nI L)) ∧ (σ' 5005 = (nI (kr (txK x L (ln9 x L (0, e, μ, b5, b6)).2.1)))) ∧ (σ' 5006 = (nI (txS x L (ln9 x L (0, e, μ, b5, b6)).2.1))) ∧ (σ' 5007 = (nI (txE x L (ln9 x L (0, e, μ, b5, b6)).2.1))) ∧ (σ' 5009 = (nI ((ln9 x L (0, e, μ, b5, b6)).1))) ∧ (σ' 4004 = (if (ln9 x L (0, e, μ, b5, b6)).1 = 0 then p0 else nI (txS x L (ln9 x L (0, e, μ, b5, b6)).2.1))) ∧ (TX 5600 σ' L x) ∧ (VL σ' x L (ln9 x L (0, e, μ, b5, b6)).2.1) ∧ ((ln9 x L (0, e, μ, b5, b6)).1 = 0 → TD σ' (ln9 x L (0, e, μ, b5, b6)).2.2.2.1 (ln9 x L (0, e, μ, b5, b6)).2.2.2.2) ∧ (∀ a, (464 ≤ a ∧ a ≠ 5010 ∧ a ≠ 5009 ∧ a ≠ 4004 ∧ (a < 5005 ∨ 5008 < a) ∨ a = 10) → σ' a = σ a)) := hQ
  have hN8 := mi_8 hI
  have h5 := (kr_i (x := x) (L := L) (e := e)).2.2.2.2.2
  have hb := tx_b (x := x) he
  have hcFR_σ : ∀ a, (464 ≤ a ∧ a ≠ 5010 ∧ a ≠ 5009 ∧ a ≠ 4004 ∧ (a < 5005 ∨ 5008 < a) ∨ a = 10) → σ a = σ a := fun _ _ => rfl
  show G X w 2 0 [(0, .ref (w.1 0))] [] σ
  refine g_aload_n h dX12_aLine_0 0 rfl ?_
  refine g_cvpi (rest := []) h (r_key hW e L x (by first | omega | assumption | fail) (by first | omega | assumption | fail) (by first | exact ht5004_σ | assumption | fail) (by first | exact ht5005_σ | assumption | fail) (by first | exact ht5006_σ | assumption | fail) (by first | exact ht5007_σ | assumption | fail) (by first | exact hcTX_σ | assumption | fail)) lX12_key mX12_244 (Nat.lt_of_lt_of_le (by decide) (Nat.le_refl _)) (by decide) sc_0 rfl rfl rfl rfl dX12_aLine_1 ?_
  rcases oI_or (kyO x L e) with ⟨hn, he9⟩ | ⟨k, hn, he9⟩
  ·
    rw [he9]
    show G X w 2 4 [(0, .ref (w.1 0))] [.int (-1)] σ
    refine g_istore_n (L' := [(0, .ref (w.1 0)), (1, .int (-1))]) h dX12_aLine_4 rfl (by decide) rfl ?_
    refine g_iload_n h dX12_aLine_5 1 rfl ?_
    refine g_iconstv h dX12_aLine_6 (v := (-1)) (by decide) ?_
    refine g_icmp_ne h dX12_aLine_7 (fun c7 => (by exfalso; first | exact c7 rfl | exact nI_ne_m1 (by omega) c7 | exact c7 (nI_ne_m1 (by omega)) | exact nI_le_m1 (by omega) c7 | exact c7 (m1_lt (by omega)) | exact absurd c7 (by decide))) (fun c7 => ?_)
    have hR : (ln9 x L (0, e, μ, b5, b6)) = (tff (txK x L e) 2, e, μ, b5, b6) := ln_n hn
    refine g_aload_n h dX12_aLine_10 0 rfl ?_
    refine g_iconst h dX12_aLine_11 (by decide) ?_
    refine g_cvi (rest := []) h (r_fails hW 2 e L x (by omega) (by first | exact ht5005_σ | assumption | fail) (by first | exact ht5006_σ | assumption | fail) (by first | exact ht5009_σ | assumption | fail)) lX12_fails mX12_226 (Nat.lt_of_lt_of_le (by decide) (Nat.le_refl _)) (by decide) sc_0 rfl rfl rfl rfl dX12_aLine_12 (fun σ_1 eσ_1 => ?_)
    obtain ⟨eσ_1_a, eσ_1_b, eσ_1_c⟩ := eσ_1
    have eσ_1_a : σ_1 5009 = (nI (tff (txK x L e) 2)) := eσ_1_a
    have eσ_1_b : σ_1 4004 = (nI (txS x L e)) := eσ_1_b
    have eσ_1_c : ∀ a, (a ≠ 5009 ∧ a ≠ 4004) → σ_1 a = σ a := eσ_1_c
    have ht5004_σ_1 : σ_1 5004 = (nI L) := by rw [eσ_1_c _ (by first | omega | (simp only [vb] at *; omega))]; first | exact ht5004_σ | assumption
    have ht5005_σ_1 : σ_1 5005 = (nI (kr (txK x L e))) := by rw [eσ_1_c _ (by first | omega | (simp only [vb] at *; omega))]; first | exact ht5005_σ | assumption
    have ht5006_σ_1 : σ_1 5006 = (nI (txS x L e)) := by rw [eσ_1_c _ (by first | omega | (simp only [vb] at *; omega))]; first | exact ht5006_σ | assumption
    have ht5007_σ_1 : σ_1 5007 = (nI (txE x L e)) := by rw [eσ_1_c _ (by first | omega | (simp only [vb] at *; omega))]; first | exact ht5007_σ | assumption
    have ht5009_σ_1 : σ_1 5009 = (nI (tff (txK x L e) 2)) := eσ_1_a
    have ht4004_σ_1 : σ_1 4004 = (nI (txS x L e)) := eσ_1_b
    have hcTX_σ_1 : TX 5600 σ_1 L x := by exact TX.fr hcTX_σ (fun a ha hb => eσ_1_c a (by first | omega | (simp only [vb] at *; omega)))
    have hcVL_σ_1 : VL σ_1 x L e := by exact VL.fr hcVL_σ (eσ_1_c _ (by first | omega | (simp only [vb] at *; omega)))
    have hcTD_σ_1 : TD σ_1 b5 b6 := by exact TD.fr hcTD_σ (eσ_1_c _ (by first | omega | (simp only [vb] at *; omega)))
    have hcFR_σ_1 : ∀ a, (464 ≤ a ∧ a ≠ 5010 ∧ a ≠ 5009 ∧ a ≠ 4004 ∧ (a < 5005 ∨ 5008 < a) ∨ a = 10) → σ_1 a = σ a := by intro a ha; exact Eq.trans (b := σ a) (eσ_1_c a (by first | omega | (simp only [vb] at *; omega))) (hcFR_σ a ha)
    have hvσ_1 : vw 0 σ_1 = μ := by rw [vw_fr (σ := σ) (fun j _ _ => eσ_1_c _ (by first | omega | (simp only [vb] at *; omega)))]; first | exact hv | assumption
    refine g_top (y := nI 0) rfl ?_
    exact g_zret h hQ dX12_aLine_15 (show narrow .boolean (.int (b2i false)) = .int (b2i false) from narrow_b2i _) (congrArg (fun z => some (Value.int (b2i z))) (show (decide ((ln9 x L (0, e, μ, b5, b6)).1 = 0)) = false by rw [hR]; first | rfl | exact decide_eq_true rfl | exact decide_eq_false hq9 | exact decide_eq_false (tff_0 (by decide)) | exact c115 | exact c135 | exact c165 | exact c185 | exact c208 | exact c231 | exact c251 | decide)) (by exact ⟨(by first | (rw [hR]; exact (hvσ_1).trans (by simp only [Nat.add_zero]; exact if_neg hq9)) | (rw [hR]; exact (hvσ_1).trans (by simp only [Nat.add_zero]; exact if_pos hq9)) | (rw [hR]; exact hvσ_1) | fail), (by first | exact ht5004_σ_1 | assumption | fail), (by rw [hR]; exact ht5005_σ_1), (by rw [hR]; exact ht5006_σ_1), (by rw [hR]; exact ht5007_σ_1), (by rw [hR]; exact ht5009_σ_1), (by first | (rw [hR]; exact ht4004_σ_1) | (rw [hR]; exact (ht4004_σ_1).trans (if_neg (by first | exact tff_0 (by decide) | decide)).symm) | fail), (by first | exact hcTX_σ_1 | assumption | fail), (by rw [hR]; exact hcVL_σ_1), (by first | (intro _; rw [hR]; exact hcTD_σ_1) | (intro z; rw [hR] at z; exact absurd z hq9) | (intro z; rw [hR] at z; exact absurd z (by first | exact tff_0 (by decide) | decide)) | fail), (by exact hcFR_σ_1)⟩)
  ·
    rw [he9]
    obtain ⟨hK1, hW1⟩ := ky_some hn
    have hk8 := txW_lt hW1
    show G X w 2 4 [(0, .ref (w.1 0))] [.int (nI k)] σ
    refine g_istore_n (L' := [(0, .ref (w.1 0)), (1, .int (nI k))]) h dX12_aLine_4 rfl (by decide) rfl ?_
    refine g_iload_n h dX12_aLine_5 1 rfl ?_
    refine g_iconstv h dX12_aLine_6 (v := (-1)) (by decide) ?_
    refine g_icmp_ne h dX12_aLine_7 (fun c7 => ?_) (fun c7 => (by exfalso; first | exact c7 rfl | exact nI_ne_m1 (by omega) c7 | exact c7 (nI_ne_m1 (by omega)) | exact nI_le_m1 (by omega) c7 | exact c7 (m1_lt (by omega)) | exact absurd c7 (by decide)))
    refine g_iload_n h dX12_aLine_16 1 rfl ?_
    refine g_iconst h dX12_aLine_17 (by decide) ?_
    refine g_icmpN_eq h dX12_aLine_18 (by omega) (by omega) (fun c18 => ?_) (fun c18 => ?_)
    ·
      refine g_aload_n h dX12_aLine_27 0 rfl ?_
      refine g_geti h dX12_aLine_28 gX12_247 sc_0 rfl ?_
      refine g_iload_n h dX12_aLine_31 1 rfl ?_
      refine g_cspi (rest := []) h (r_has hW (σ 5010) k (by omega)) lX12_has mX12_65 (Nat.lt_of_lt_of_le (by decide) (Nat.le_refl _)) (by decide) rfl rfl rfl dX12_aLine_32 ?_
      refine g_ifB_eq h dX12_aLine_35 (fun c35 => ?_) (fun c35 => ?_)
      ·
        have hnt : ¬ told9 b5 b6 k = true := by first | exact td_n hcTD_σ (Or.inl c18) c35 | exact td_n hcTD_σ (Or.inr c24) c35 | exact td_n2 c18 c24
        refine g_aload_n h dX12_aLine_44 0 rfl ?_
        refine g_dup h dX12_aLine_45 rfl ?_
        refine g_geti h dX12_aLine_46 gX12_247 sc_0 rfl ?_
        refine g_iconst h dX12_aLine_49 (by decide) ?_
        refine g_iload_n h dX12_aLine_50 1 rfl ?_
        refine g_ishl h dX12_aLine_51  ?_
        refine g_top (y := bt1 k) rfl ?_
        refine g_ior h dX12_aLine_52  ?_
        refine g_puti h dX12_aLine_53 pX12_247 sc_0 rfl ?_
        refine g_nm (fun σt eσt => ?_)
        have eσt : σt = upd σ 5010 ((σ 5010) ||| (bt1 k)) := eσt
        have ht5004_σt : σt 5004 = (nI L) := by rw [eσt, upd_ne (by first | omega | (simp only [vb] at *; omega))]; first | exact ht5004_σ | assumption
        have ht5005_σt : σt 5005 = (nI (kr (txK x L e))) := by rw [eσt, upd_ne (by first | omega | (simp only [vb] at *; omega))]; first | exact ht5005_σ | assumption
        have ht5006_σt : σt 5006 = (nI (txS x L e)) := by rw [eσt, upd_ne (by first | omega | (simp only [vb] at *; omega))]; first | exact ht5006_σ | assumption
        have ht5007_σt : σt 5007 = (nI (txE x L e)) := by rw [eσt, upd_ne (by first | omega | (simp only [vb] at *; omega))]; first | exact ht5007_σ | assumption
        have ht5009_σt : σt 5009 = (nI 0) := by rw [eσt, upd_ne (by first | omega | (simp only [vb] at *; omega))]; first | exact ht5009_σ | assumption
        have ht4004_σt : σt 4004 = p0 := by rw [eσt, upd_ne (by first | omega | (simp only [vb] at *; omega))]; first | exact ht4004_σ | assumption
        have hcTX_σt : TX 5600 σt L x := by rw [eσt]; exact TX.fr hcTX_σ (fun a ha hb => upd_ne (by first | omega | (simp only [vb] at *; omega)))
        have hcVL_σt : VL σt x L e := by rw [eσt]; exact VL.fr hcVL_σ (upd_ne (by first | omega | (simp only [vb] at *; omega)))
        have hcFR_σt : ∀ a, (464 ≤ a ∧ a ≠ 5010 ∧ a ≠ 5009 ∧ a ≠ 4004 ∧ (a < 5005 ∨ 5008 < a) ∨ a = 10) → σt a = σ a := by intro a ha; exact Eq.trans (b := σ a) (by rw [eσt, upd_ne (by first | omega | (simp only [vb] at *; omega))]) (hcFR_σ a ha)
        have hvσt : vw 0 σt = μ := by rw [eσt, vw_out (by omega)]; first | exact hv | assumption
        have hcTD_σt : TD σt (b5 || decide (k = 5)) (b6 || decide (k = 6)) := td_s hcTD_σ hk8 eσt
        refine g_aload_n h dX12_aLine_56 0 rfl ?_
        refine g_cvv (rest := []) h (r_ahead hW (txE x L e) L x (by first | omega | assumption | fail) (by first | omega | assumption | fail) (by first | exact ht5004_σt | assumption | fail) (by first | exact ht5007_σt | assumption | fail) (by first | exact hcTX_σt | assumption | fail)) lX12_ahead mX12_229 (Nat.lt_of_lt_of_le (by decide) (Nat.le_refl _)) (by decide) sc_0 rfl rfl rfl rfl dX12_aLine_57 (fun σ_2 eσ_2 => ?_)
        obtain ⟨eσ_2_a, eσ_2_b, eσ_2_c, eσ_2_d, eσ_2_e, eσ_2_f, eσ_2_g⟩ := eσ_2
        have eσ_2_a : σ_2 5004 = (nI L) := eσ_2_a
        have eσ_2_b : σ_2 5005 = (nI (kr (txK x L (txE x L e)))) := eσ_2_b
        have eσ_2_c : σ_2 5006 = (nI (txS x L (txE x L e))) := eσ_2_c
        have eσ_2_d : σ_2 5007 = (nI (txE x L (txE x L e))) := eσ_2_d
        have eσ_2_e : TX 5600 σ_2 L x := eσ_2_e
        have eσ_2_f : VL σ_2 x L (txE x L e) := eσ_2_f
        have eσ_2_g : ∀ a, (a < 5005 ∨ 5008 < a) → σ_2 a = σt a := eσ_2_g
        have ht5009_σ_2 : σ_2 5009 = (nI 0) := by rw [eσ_2_g _ (by first | omega | (simp only [vb] at *; omega))]; first | exact ht5009_σt | assumption
        have ht4004_σ_2 : σ_2 4004 = p0 := by rw [eσ_2_g _ (by first | omega | (simp only [vb] at *; omega))]; first | exact ht4004_σt | assumption
        have ht5004_σ_2 : σ_2 5004 = (nI L) := eσ_2_a
        have ht5005_σ_2 : σ_2 5005 = (nI (kr (txK x L (txE x L e)))) := eσ_2_b
        have ht5006_σ_2 : σ_2 5006 = (nI (txS x L (txE x L e))) := eσ_2_c
        have ht5007_σ_2 : σ_2 5007 = (nI (txE x L (txE x L e))) := eσ_2_d
        have hcTX_σ_2 : TX 5600 σ_2 L x := eσ_2_e
        have hcVL_σ_2 : VL σ_2 x L (txE x L e) := eσ_2_f
        have hcFR_σ_2 : ∀ a, (464 ≤ a ∧ a ≠ 5010 ∧ a ≠ 5009 ∧ a ≠ 4004 ∧ (a < 5005 ∨ 5008 < a) ∨ a = 10) → σ_2 a = σ a := by intro a ha; exact Eq.trans (b := σt a) (eσ_2_g a (by first | omega | (simp only [vb] at *; omega))) (hcFR_σt a ha)
        have hcTD_σ_2 : TD σ_2 (b5 || decide (k = 5)) (b6 || decide (k = 6)) := by exact TD.fr hcTD_σt (eσ_2_g _ (by first | omega | (simp only [vb] at *; omega)))
        have hvσ_2 : vw 0 σ_2 = μ := by rw [vw_fr (σ := σt) (fun j _ _ => eσ_2_g _ (by first | omega | (simp only [vb] at *; omega)))]; first | exact hvσt | assumption
        refine g_iload_n h dX12_aLine_60 1 rfl ?_
        rcases (show k = 0 ∨ k = 1 ∨ k = 2 ∨ k = 3 ∨ k = 4 ∨ k = 5 ∨ k = 6 ∨ k = 7 by omega) with hc61 | hc61 | hc61 | hc61 | hc61 | hc61 | hc61 | hc61
        ·
          refine g_tsw (off := 43) (tgt := 104) h dX12_aLine_61 (nI 0) (by rw [hc61]) (by decide) (by decide) (by decide +kernel) (by decide) ?_
          refine g_aload_n h dX12_aLine_104 0 rfl ?_
          refine g_cvi (rest := []) h (r_moreNodes hW (txE x L e) L x p0 μ (by first | omega | assumption | fail) (by first | omega | assumption | fail) (by first | exact hvσ_2 | assumption | fail) (by assumption) (by first | exact ht5004_σ_2 | assumption | fail) (by first | exact ht5005_σ_2 | assumption | fail) (by first | exact ht5006_σ_2 | assumption | fail) (by first | exact ht5007_σ_2 | assumption | fail) (by first | exact ht5009_σ_2 | assumption | fail) (by first | exact ht4004_σ_2 | assumption | fail) (by first | exact hcTX_σ_2 | assumption | fail) (by first | exact hcVL_σ_2 | assumption | fail)) lX12_moreNodes mX12_250 (Nat.lt_of_lt_of_le (by decide) (Nat.le_refl _)) (by decide) sc_0 rfl rfl rfl rfl dX12_aLine_105 (fun σ_3 eσ_3 => ?_)
          obtain ⟨eσ_3_a, eσ_3_b, eσ_3_c, eσ_3_d, eσ_3_e, eσ_3_f, eσ_3_g, eσ_3_h, eσ_3_i, eσ_3_j⟩ := eσ_3
          have eσ_3_a : vw 0 σ_3 = pk0 (ar9 x L μ 0 (na9 0) 0 0 (txE x L e)).1 (EF μ 0 (txV x L (txE x L e)) (txV x L (txE x L (txE x L e))) (txV x L (txE x L (txE x L (txE x L e))))) μ := eσ_3_a
          have eσ_3_b : σ_3 5004 = (nI L) := eσ_3_b
          have eσ_3_c : σ_3 5005 = (nI (kr (txK x L (ar9 x L μ 0 (na9 0) 0 0 (txE x L e)).2))) := eσ_3_c
          have eσ_3_d : σ_3 5006 = (nI (txS x L (ar9 x L μ 0 (na9 0) 0 0 (txE x L e)).2)) := eσ_3_d
          have eσ_3_e : σ_3 5007 = (nI (txE x L (ar9 x L μ 0 (na9 0) 0 0 (txE x L e)).2)) := eσ_3_e
          have eσ_3_f : σ_3 5009 = (nI ((ar9 x L μ 0 (na9 0) 0 0 (txE x L e)).1)) := eσ_3_f
          have eσ_3_g : σ_3 4004 = (if (ar9 x L μ 0 (na9 0) 0 0 (txE x L e)).1 = 0 then p0 else nI (txS x L (ar9 x L μ 0 (na9 0) 0 0 (txE x L e)).2)) := eσ_3_g
          have eσ_3_h : TX 5600 σ_3 L x := eσ_3_h
          have eσ_3_i : VL σ_3 x L (ar9 x L μ 0 (na9 0) 0 0 (txE x L e)).2 := eσ_3_i
          have eσ_3_j : ∀ a, (464 ≤ a ∧ a ≠ 5009 ∧ a ≠ 4004 ∧ (a < 5005 ∨ 5008 < a) ∨ a = 10) → σ_3 a = σ_2 a := eσ_3_j
          have ht5004_σ_3 : σ_3 5004 = (nI L) := eσ_3_b
          have ht5005_σ_3 : σ_3 5005 = (nI (kr (txK x L (ar9 x L μ 0 (na9 0) 0 0 (txE x L e)).2))) := eσ_3_c
          have ht5006_σ_3 : σ_3 5006 = (nI (txS x L (ar9 x L μ 0 (na9 0) 0 0 (txE x L e)).2)) := eσ_3_d
          have ht5007_σ_3 : σ_3 5007 = (nI (txE x L (ar9 x L μ 0 (na9 0) 0 0 (txE x L e)).2)) := eσ_3_e
          have ht5009_σ_3 : σ_3 5009 = (nI ((ar9 x L μ 0 (na9 0) 0 0 (txE x L e)).1)) := eσ_3_f
          have ht4004_σ_3 : σ_3 4004 = (if (ar9 x L μ 0 (na9 0) 0 0 (txE x L e)).1 = 0 then p0 else nI (txS x L (ar9 x L μ 0 (na9 0) 0 0 (txE x L e)).2)) := eσ_3_g
          have hcTX_σ_3 : TX 5600 σ_3 L x := eσ_3_h
          have hcVL_σ_3 : VL σ_3 x L (ar9 x L μ 0 (na9 0) 0 0 (txE x L e)).2 := eσ_3_i
          have hcFR_σ_3 : ∀ a, (464 ≤ a ∧ a ≠ 5010 ∧ a ≠ 5009 ∧ a ≠ 4004 ∧ (a < 5005 ∨ 5008 < a) ∨ a = 10) → σ_3 a = σ a := by intro a ha; exact Eq.trans (b := σ_2 a) (eσ_3_j a (by first | omega | (simp only [vb] at *; omega))) (hcFR_σ_2 a ha)
          have hcTD_σ_3 : TD σ_3 (b5 || decide (k = 5)) (b6 || decide (k = 6)) := by exact TD.fr hcTD_σ_2 (eσ_3_j _ (by first | omega | (simp only [vb] at *; omega)))
          obtain ⟨μ_4, eμ_4⟩ : ∃ μ_4 : Nat → Int32, μ_4 = pk0 (ar9 x L μ 0 (na9 0) 0 0 (txE x L e)).1 (EF μ 0 (txV x L (txE x L e)) (txV x L (txE x L (txE x L e))) (txV x L (txE x L (txE x L (txE x L e))))) μ := ⟨_, rfl⟩
          have hvσ_3 : vw 0 σ_3 = μ_4 := by rw [eμ_4]; exact eσ_3_a
          refine g_ifB_eq h dX12_aLine_108 (fun c108 => ?_) (fun c108 => ?_)
          ·
            have hq9 : (ar9 x L μ 0 (na9 0) 0 0 (txE x L e)).1 ≠ 0 := of_decide_eq_false c108
            have hR := ln_f (b5 := b5) (b6 := b6) hK1 hW1 hnt hc61 hq9
            refine g_iconst h dX12_aLine_122 (by decide) ?_
            exact g_zret h hQ dX12_aLine_123 (show narrow .boolean (.int (b2i false)) = .int (b2i false) from narrow_b2i _) (congrArg (fun z => some (Value.int (b2i z))) (show (decide ((ln9 x L (0, e, μ, b5, b6)).1 = 0)) = false by rw [hR]; first | rfl | exact decide_eq_true rfl | exact decide_eq_false hq9 | exact decide_eq_false (tff_0 (by decide)) | exact c115 | exact c135 | exact c165 | exact c185 | exact c208 | exact c231 | exact c251 | decide)) (by exact ⟨(by first | (rw [hR]; exact (hvσ_3).trans (by simp only [eμ_4]; exact if_neg hq9)) | (rw [hR]; exact (hvσ_3).trans (by simp only [eμ_4]; exact if_pos hq9)) | (rw [hR]; exact hvσ_3) | fail), (by first | exact ht5004_σ_3 | assumption | fail), (by rw [hR]; exact ht5005_σ_3), (by rw [hR]; exact ht5006_σ_3), (by rw [hR]; exact ht5007_σ_3), (by rw [hR]; exact ht5009_σ_3), (by first | (rw [hR]; exact ht4004_σ_3) | (rw [hR]; exact (ht4004_σ_3).trans (if_neg (by first | exact tff_0 (by decide) | decide)).symm) | fail), (by first | exact hcTX_σ_3 | assumption | fail), (by rw [hR]; exact hcVL_σ_3), (by first | (intro _; rw [hR]; exact hcTD_σ_3) | (intro z; rw [hR] at z; exact absurd z hq9) | (intro z; rw [hR] at z; exact absurd z (by first | exact tff_0 (by decide) | decide)) | fail), (by exact hcFR_σ_3)⟩)
          ·
            have hq9 : (ar9 x L μ 0 (na9 0) 0 0 (txE x L e)).1 = 0 := of_decide_eq_true c108
            have hR := ln_y (b5 := b5) (b6 := b6) hK1 hW1 hnt hc61 hq9
            have hab := (ar9_b (x := x) (L := L) (μ := μ) (k := 0) (na9 0) 0 0 (txE x L e) hb.2.2).2.2
            have ht5009_σ_3 : σ_3 5009 = (nI 0) := by rw [ht5009_σ_3, hq9]
            have ht4004_σ_3 : σ_3 4004 = p0 := by rw [ht4004_σ_3, if_pos hq9]
            refine g_aload_n h dX12_aLine_111 0 rfl ?_
            refine g_cvi (rest := []) h (r_closes hW ((ar9 x L μ 0 (na9 0) 0 0 (txE x L e)).2) L x p0 (by first | omega | assumption | fail) (by first | omega | assumption | fail) (by first | exact ht5004_σ_3 | assumption | fail) (by first | exact ht5005_σ_3 | assumption | fail) (by first | exact ht5006_σ_3 | assumption | fail) (by first | exact ht5007_σ_3 | assumption | fail) (by first | exact ht5009_σ_3 | assumption | fail) (by first | exact ht4004_σ_3 | assumption | fail) (by first | exact hcTX_σ_3 | assumption | fail) (by first | exact hcVL_σ_3 | assumption | fail)) lX12_closes mX12_253 (Nat.lt_of_lt_of_le (by decide) (Nat.le_refl _)) (by decide) sc_0 rfl rfl rfl rfl dX12_aLine_112 (fun σ_5 eσ_5 => ?_)
            obtain ⟨eσ_5_a, eσ_5_b, eσ_5_c, eσ_5_d, eσ_5_e, eσ_5_f, eσ_5_g, eσ_5_h, eσ_5_i⟩ := eσ_5
            have eσ_5_a : σ_5 5004 = (nI L) := eσ_5_a
            have eσ_5_b : σ_5 5005 = (nI (kr (txK x L (cl9 x L ((ar9 x L μ 0 (na9 0) 0 0 (txE x L e)).2))))) := eσ_5_b
            have eσ_5_c : σ_5 5006 = (nI (txS x L (cl9 x L ((ar9 x L μ 0 (na9 0) 0 0 (txE x L e)).2)))) := eσ_5_c
            have eσ_5_d : σ_5 5007 = (nI (txE x L (cl9 x L ((ar9 x L μ 0 (na9 0) 0 0 (txE x L e)).2)))) := eσ_5_d
            have eσ_5_e : σ_5 5009 = (nI (tf9 (txK x L ((ar9 x L μ 0 (na9 0) 0 0 (txE x L e)).2)) 3)) := eσ_5_e
            have eσ_5_f : σ_5 4004 = (if tf9 (txK x L ((ar9 x L μ 0 (na9 0) 0 0 (txE x L e)).2)) 3 = 0 then p0 else nI (txS x L (cl9 x L ((ar9 x L μ 0 (na9 0) 0 0 (txE x L e)).2)))) := eσ_5_f
            have eσ_5_g : TX 5600 σ_5 L x := eσ_5_g
            have eσ_5_h : VL σ_5 x L (cl9 x L ((ar9 x L μ 0 (na9 0) 0 0 (txE x L e)).2)) := eσ_5_h
            have eσ_5_i : ∀ a, (a ≠ 5009 ∧ a ≠ 4004 ∧ (a < 5005 ∨ 5008 < a)) → σ_5 a = σ_3 a := eσ_5_i
            have ht5004_σ_5 : σ_5 5004 = (nI L) := eσ_5_a
            have ht5005_σ_5 : σ_5 5005 = (nI (kr (txK x L (cl9 x L ((ar9 x L μ 0 (na9 0) 0 0 (txE x L e)).2))))) := eσ_5_b
            have ht5006_σ_5 : σ_5 5006 = (nI (txS x L (cl9 x L ((ar9 x L μ 0 (na9 0) 0 0 (txE x L e)).2)))) := eσ_5_c
            have ht5007_σ_5 : σ_5 5007 = (nI (txE x L (cl9 x L ((ar9 x L μ 0 (na9 0) 0 0 (txE x L e)).2)))) := eσ_5_d
            have ht5009_σ_5 : σ_5 5009 = (nI (tf9 (txK x L ((ar9 x L μ 0 (na9 0) 0 0 (txE x L e)).2)) 3)) := eσ_5_e
            have ht4004_σ_5 : σ_5 4004 = (if tf9 (txK x L ((ar9 x L μ 0 (na9 0) 0 0 (txE x L e)).2)) 3 = 0 then p0 else nI (txS x L (cl9 x L ((ar9 x L μ 0 (na9 0) 0 0 (txE x L e)).2)))) := eσ_5_f
            have hcTX_σ_5 : TX 5600 σ_5 L x := eσ_5_g
            have hcVL_σ_5 : VL σ_5 x L (cl9 x L ((ar9 x L μ 0 (na9 0) 0 0 (txE x L e)).2)) := eσ_5_h
            have hcFR_σ_5 : ∀ a, (464 ≤ a ∧ a ≠ 5010 ∧ a ≠ 5009 ∧ a ≠ 4004 ∧ (a < 5005 ∨ 5008 < a) ∨ a = 10) → σ_5 a = σ a := by intro a ha; exact Eq.trans (b := σ_3 a) (eσ_5_i a (by first | omega | (simp only [vb] at *; omega))) (hcFR_σ_3 a ha)
            have hcTD_σ_5 : TD σ_5 (b5 || decide (k = 5)) (b6 || decide (k = 6)) := by exact TD.fr hcTD_σ_3 (eσ_5_i _ (by first | omega | (simp only [vb] at *; omega)))
            have hvσ_5 : vw 0 σ_5 = μ_4 := by rw [vw_fr (σ := σ_3) (fun j _ _ => eσ_5_i _ (by first | omega | (simp only [vb] at *; omega)))]; first | exact hvσ_3 | assumption
            refine g_ifB_eq h dX12_aLine_115 (fun c115 => ?_) (fun c115 => ?_)
            ·
              refine g_iconst h dX12_aLine_122 (by decide) ?_
              exact g_zret h hQ dX12_aLine_123 (show narrow .boolean (.int (b2i false)) = .int (b2i false) from narrow_b2i _) (congrArg (fun z => some (Value.int (b2i z))) (show (decide ((ln9 x L (0, e, μ, b5, b6)).1 = 0)) = false by rw [hR]; first | rfl | exact decide_eq_true rfl | exact decide_eq_false hq9 | exact decide_eq_false (tff_0 (by decide)) | exact c115 | exact c135 | exact c165 | exact c185 | exact c208 | exact c231 | exact c251 | decide)) (by exact ⟨(by first | (rw [hR]; exact (hvσ_5).trans (by simp only [eμ_4]; exact if_neg hq9)) | (rw [hR]; exact (hvσ_5).trans (by simp only [eμ_4]; exact if_pos hq9)) | (rw [hR]; exact hvσ_5) | fail), (by first | exact ht5004_σ_5 | assumption | fail), (by rw [hR]; exact ht5005_σ_5), (by rw [hR]; exact ht5006_σ_5), (by rw [hR]; exact ht5007_σ_5), (by rw [hR]; exact ht5009_σ_5), (by first | (rw [hR]; exact ht4004_σ_5) | (rw [hR]; exact (ht4004_σ_5).trans (if_neg (by first | exact tff_0 (by decide) | decide)).symm) | fail), (by first | exact hcTX_σ_5 | assumption | fail), (by rw [hR]; exact hcVL_σ_5), (by first | (intro _; rw [hR]; exact hcTD_σ_5) | (intro z; rw [hR] at z; exact absurd z hq9) | (intro z; rw [hR] at z; exact absurd z (by first | exact tff_0 (by decide) | decide)) | fail), (by exact hcFR_σ_5)⟩)
            ·
              refine g_iconst h dX12_aLine_118 (by decide) ?_
              refine g_goto h dX12_aLine_119 ?_
              exact g_zret h hQ dX12_aLine_123 (show narrow .boolean (.int (b2i true)) = .int (b2i true) from narrow_b2i _) (congrArg (fun z => some (Value.int (b2i z))) (show (decide ((ln9 x L (0, e, μ, b5, b6)).1 = 0)) = true by rw [hR]; first | rfl | exact decide_eq_true rfl | exact decide_eq_false hq9 | exact decide_eq_false (tff_0 (by decide)) | exact c115 | exact c135 | exact c165 | exact c185 | exact c208 | exact c231 | exact c251 | decide)) (by exact ⟨(by first | (rw [hR]; exact (hvσ_5).trans (by simp only [eμ_4]; exact if_neg hq9)) | (rw [hR]; exact (hvσ_5).trans (by simp only [eμ_4]; exact if_pos hq9)) | (rw [hR]; exact hvσ_5) | fail), (by first | exact ht5004_σ_5 | assumption | fail), (by rw [hR]; exact ht5005_σ_5), (by rw [hR]; exact ht5006_σ_5), (by rw [hR]; exact ht5007_σ_5), (by rw [hR]; exact ht5009_σ_5), (by first | (rw [hR]; exact ht4004_σ_5) | (rw [hR]; exact (ht4004_σ_5).trans (if_neg (by first | exact tff_0 (by decide) | decide)).symm) | fail), (by first | exact hcTX_σ_5 | assumption | fail), (by rw [hR]; exact hcVL_σ_5), (by first | (intro _; rw [hR]; exact hcTD_σ_5) | (intro z; rw [hR] at z; exact absurd z hq9) | (intro z; rw [hR] at z; exact absurd z (by first | exact tff_0 (by decide) | decide)) | fail), (by exact hcFR_σ_5)⟩)
        ·
          refine g_tsw (off := 63) (tgt := 124) h dX12_aLine_61 (nI 1) (by rw [hc61]) (by decide) (by decide) (by decide +kernel) (by decide) ?_
          refine g_aload_n h dX12_aLine_124 0 rfl ?_
          refine g_cvi (rest := []) h (r_aWill hW (txE x L e) L x p0 μ (by first | omega | assumption | fail) (by first | omega | assumption | fail) (by first | exact hvσ_2 | assumption | fail) (by assumption) (by first | exact ht5004_σ_2 | assumption | fail) (by first | exact ht5005_σ_2 | assumption | fail) (by first | exact ht5006_σ_2 | assumption | fail) (by first | exact ht5007_σ_2 | assumption | fail) (by first | exact ht5009_σ_2 | assumption | fail) (by first | exact ht4004_σ_2 | assumption | fail) (by first | exact hcTX_σ_2 | assumption | fail) (by first | exact hcVL_σ_2 | assumption | fail)) lX12_aWill mX12_256 (Nat.lt_of_lt_of_le (by decide) (Nat.le_refl _)) (by decide) sc_0 rfl rfl rfl rfl dX12_aLine_125 (fun σ_6 eσ_6 => ?_)
          obtain ⟨eσ_6_a, eσ_6_b, eσ_6_c, eσ_6_d, eσ_6_e, eσ_6_f, eσ_6_g, eσ_6_h, eσ_6_i, eσ_6_j⟩ := eσ_6
          have eσ_6_a : vw 0 σ_6 = pk0 (ar9 x L μ 1 (na9 1) 0 0 (txE x L e)).1 (EF μ 1 (txV x L (txE x L e)) (txV x L (txE x L (txE x L e))) (txV x L (txE x L (txE x L (txE x L e))))) μ := eσ_6_a
          have eσ_6_b : σ_6 5004 = (nI L) := eσ_6_b
          have eσ_6_c : σ_6 5005 = (nI (kr (txK x L (ar9 x L μ 1 (na9 1) 0 0 (txE x L e)).2))) := eσ_6_c
          have eσ_6_d : σ_6 5006 = (nI (txS x L (ar9 x L μ 1 (na9 1) 0 0 (txE x L e)).2)) := eσ_6_d
          have eσ_6_e : σ_6 5007 = (nI (txE x L (ar9 x L μ 1 (na9 1) 0 0 (txE x L e)).2)) := eσ_6_e
          have eσ_6_f : σ_6 5009 = (nI ((ar9 x L μ 1 (na9 1) 0 0 (txE x L e)).1)) := eσ_6_f
          have eσ_6_g : σ_6 4004 = (if (ar9 x L μ 1 (na9 1) 0 0 (txE x L e)).1 = 0 then p0 else nI (txS x L (ar9 x L μ 1 (na9 1) 0 0 (txE x L e)).2)) := eσ_6_g
          have eσ_6_h : TX 5600 σ_6 L x := eσ_6_h
          have eσ_6_i : VL σ_6 x L (ar9 x L μ 1 (na9 1) 0 0 (txE x L e)).2 := eσ_6_i
          have eσ_6_j : ∀ a, (464 ≤ a ∧ a ≠ 5009 ∧ a ≠ 4004 ∧ (a < 5005 ∨ 5008 < a) ∨ a = 10) → σ_6 a = σ_2 a := eσ_6_j
          have ht5004_σ_6 : σ_6 5004 = (nI L) := eσ_6_b
          have ht5005_σ_6 : σ_6 5005 = (nI (kr (txK x L (ar9 x L μ 1 (na9 1) 0 0 (txE x L e)).2))) := eσ_6_c
          have ht5006_σ_6 : σ_6 5006 = (nI (txS x L (ar9 x L μ 1 (na9 1) 0 0 (txE x L e)).2)) := eσ_6_d
          have ht5007_σ_6 : σ_6 5007 = (nI (txE x L (ar9 x L μ 1 (na9 1) 0 0 (txE x L e)).2)) := eσ_6_e
          have ht5009_σ_6 : σ_6 5009 = (nI ((ar9 x L μ 1 (na9 1) 0 0 (txE x L e)).1)) := eσ_6_f
          have ht4004_σ_6 : σ_6 4004 = (if (ar9 x L μ 1 (na9 1) 0 0 (txE x L e)).1 = 0 then p0 else nI (txS x L (ar9 x L μ 1 (na9 1) 0 0 (txE x L e)).2)) := eσ_6_g
          have hcTX_σ_6 : TX 5600 σ_6 L x := eσ_6_h
          have hcVL_σ_6 : VL σ_6 x L (ar9 x L μ 1 (na9 1) 0 0 (txE x L e)).2 := eσ_6_i
          have hcFR_σ_6 : ∀ a, (464 ≤ a ∧ a ≠ 5010 ∧ a ≠ 5009 ∧ a ≠ 4004 ∧ (a < 5005 ∨ 5008 < a) ∨ a = 10) → σ_6 a = σ a := by intro a ha; exact Eq.trans (b := σ_2 a) (eσ_6_j a (by first | omega | (simp only [vb] at *; omega))) (hcFR_σ_2 a ha)
          have hcTD_σ_6 : TD σ_6 (b5 || decide (k = 5)) (b6 || decide (k = 6)) := by exact TD.fr hcTD_σ_2 (eσ_6_j _ (by first | omega | (simp only [vb] at *; omega)))
          obtain ⟨μ_7, eμ_7⟩ : ∃ μ_7 : Nat → Int32, μ_7 = pk0 (ar9 x L μ 1 (na9 1) 0 0 (txE x L e)).1 (EF μ 1 (txV x L (txE x L e)) (txV x L (txE x L (txE x L e))) (txV x L (txE x L (txE x L (txE x L e))))) μ := ⟨_, rfl⟩
          have hvσ_6 : vw 0 σ_6 = μ_7 := by rw [eμ_7]; exact eσ_6_a
          refine g_ifB_eq h dX12_aLine_128 (fun c128 => ?_) (fun c128 => ?_)
          ·
            have hq9 : (ar9 x L μ 1 (na9 1) 0 0 (txE x L e)).1 ≠ 0 := of_decide_eq_false c128
            have hR := ln_f (b5 := b5) (b6 := b6) hK1 hW1 hnt hc61 hq9
            refine g_iconst h dX12_aLine_142 (by decide) ?_
            exact g_zret h hQ dX12_aLine_143 (show narrow .boolean (.int (b2i false)) = .int (b2i false) from narrow_b2i _) (congrArg (fun z => some (Value.int (b2i z))) (show (decide ((ln9 x L (0, e, μ, b5, b6)).1 = 0)) = false by rw [hR]; first | rfl | exact decide_eq_true rfl | exact decide_eq_false hq9 | exact decide_eq_false (tff_0 (by decide)) | exact c115 | exact c135 | exact c165 | exact c185 | exact c208 | exact c231 | exact c251 | decide)) (by exact ⟨(by first | (rw [hR]; exact (hvσ_6).trans (by simp only [eμ_7]; exact if_neg hq9)) | (rw [hR]; exact (hvσ_6).trans (by simp only [eμ_7]; exact if_pos hq9)) | (rw [hR]; exact hvσ_6) | fail), (by first | exact ht5004_σ_6 | assumption | fail), (by rw [hR]; exact ht5005_σ_6), (by rw [hR]; exact ht5006_σ_6), (by rw [hR]; exact ht5007_σ_6), (by rw [hR]; exact ht5009_σ_6), (by first | (rw [hR]; exact ht4004_σ_6) | (rw [hR]; exact (ht4004_σ_6).trans (if_neg (by first | exact tff_0 (by decide) | decide)).symm) | fail), (by first | exact hcTX_σ_6 | assumption | fail), (by rw [hR]; exact hcVL_σ_6), (by first | (intro _; rw [hR]; exact hcTD_σ_6) | (intro z; rw [hR] at z; exact absurd z hq9) | (intro z; rw [hR] at z; exact absurd z (by first | exact tff_0 (by decide) | decide)) | fail), (by exact hcFR_σ_6)⟩)
          ·
            have hq9 : (ar9 x L μ 1 (na9 1) 0 0 (txE x L e)).1 = 0 := of_decide_eq_true c128
            have hR := ln_y (b5 := b5) (b6 := b6) hK1 hW1 hnt hc61 hq9
            have hab := (ar9_b (x := x) (L := L) (μ := μ) (k := 1) (na9 1) 0 0 (txE x L e) hb.2.2).2.2
            have ht5009_σ_6 : σ_6 5009 = (nI 0) := by rw [ht5009_σ_6, hq9]
            have ht4004_σ_6 : σ_6 4004 = p0 := by rw [ht4004_σ_6, if_pos hq9]
            refine g_aload_n h dX12_aLine_131 0 rfl ?_
            refine g_cvi (rest := []) h (r_closes hW ((ar9 x L μ 1 (na9 1) 0 0 (txE x L e)).2) L x p0 (by first | omega | assumption | fail) (by first | omega | assumption | fail) (by first | exact ht5004_σ_6 | assumption | fail) (by first | exact ht5005_σ_6 | assumption | fail) (by first | exact ht5006_σ_6 | assumption | fail) (by first | exact ht5007_σ_6 | assumption | fail) (by first | exact ht5009_σ_6 | assumption | fail) (by first | exact ht4004_σ_6 | assumption | fail) (by first | exact hcTX_σ_6 | assumption | fail) (by first | exact hcVL_σ_6 | assumption | fail)) lX12_closes mX12_253 (Nat.lt_of_lt_of_le (by decide) (Nat.le_refl _)) (by decide) sc_0 rfl rfl rfl rfl dX12_aLine_132 (fun σ_8 eσ_8 => ?_)
            obtain ⟨eσ_8_a, eσ_8_b, eσ_8_c, eσ_8_d, eσ_8_e, eσ_8_f, eσ_8_g, eσ_8_h, eσ_8_i⟩ := eσ_8
            have eσ_8_a : σ_8 5004 = (nI L) := eσ_8_a
            have eσ_8_b : σ_8 5005 = (nI (kr (txK x L (cl9 x L ((ar9 x L μ 1 (na9 1) 0 0 (txE x L e)).2))))) := eσ_8_b
            have eσ_8_c : σ_8 5006 = (nI (txS x L (cl9 x L ((ar9 x L μ 1 (na9 1) 0 0 (txE x L e)).2)))) := eσ_8_c
            have eσ_8_d : σ_8 5007 = (nI (txE x L (cl9 x L ((ar9 x L μ 1 (na9 1) 0 0 (txE x L e)).2)))) := eσ_8_d
            have eσ_8_e : σ_8 5009 = (nI (tf9 (txK x L ((ar9 x L μ 1 (na9 1) 0 0 (txE x L e)).2)) 3)) := eσ_8_e
            have eσ_8_f : σ_8 4004 = (if tf9 (txK x L ((ar9 x L μ 1 (na9 1) 0 0 (txE x L e)).2)) 3 = 0 then p0 else nI (txS x L (cl9 x L ((ar9 x L μ 1 (na9 1) 0 0 (txE x L e)).2)))) := eσ_8_f
            have eσ_8_g : TX 5600 σ_8 L x := eσ_8_g
            have eσ_8_h : VL σ_8 x L (cl9 x L ((ar9 x L μ 1 (na9 1) 0 0 (txE x L e)).2)) := eσ_8_h
            have eσ_8_i : ∀ a, (a ≠ 5009 ∧ a ≠ 4004 ∧ (a < 5005 ∨ 5008 < a)) → σ_8 a = σ_6 a := eσ_8_i
            have ht5004_σ_8 : σ_8 5004 = (nI L) := eσ_8_a
            have ht5005_σ_8 : σ_8 5005 = (nI (kr (txK x L (cl9 x L ((ar9 x L μ 1 (na9 1) 0 0 (txE x L e)).2))))) := eσ_8_b
            have ht5006_σ_8 : σ_8 5006 = (nI (txS x L (cl9 x L ((ar9 x L μ 1 (na9 1) 0 0 (txE x L e)).2)))) := eσ_8_c
            have ht5007_σ_8 : σ_8 5007 = (nI (txE x L (cl9 x L ((ar9 x L μ 1 (na9 1) 0 0 (txE x L e)).2)))) := eσ_8_d
            have ht5009_σ_8 : σ_8 5009 = (nI (tf9 (txK x L ((ar9 x L μ 1 (na9 1) 0 0 (txE x L e)).2)) 3)) := eσ_8_e
            have ht4004_σ_8 : σ_8 4004 = (if tf9 (txK x L ((ar9 x L μ 1 (na9 1) 0 0 (txE x L e)).2)) 3 = 0 then p0 else nI (txS x L (cl9 x L ((ar9 x L μ 1 (na9 1) 0 0 (txE x L e)).2)))) := eσ_8_f
            have hcTX_σ_8 : TX 5600 σ_8 L x := eσ_8_g
            have hcVL_σ_8 : VL σ_8 x L (cl9 x L ((ar9 x L μ 1 (na9 1) 0 0 (txE x L e)).2)) := eσ_8_h
            have hcFR_σ_8 : ∀ a, (464 ≤ a ∧ a ≠ 5010 ∧ a ≠ 5009 ∧ a ≠ 4004 ∧ (a < 5005 ∨ 5008 < a) ∨ a = 10) → σ_8 a = σ a := by intro a ha; exact Eq.trans (b := σ_6 a) (eσ_8_i a (by first | omega | (simp only [vb] at *; omega))) (hcFR_σ_6 a ha)
            have hcTD_σ_8 : TD σ_8 (b5 || decide (k = 5)) (b6 || decide (k = 6)) := by exact TD.fr hcTD_σ_6 (eσ_8_i _ (by first | omega | (simp only [vb] at *; omega)))
            have hvσ_8 : vw 0 σ_8 = μ_7 := by rw [vw_fr (σ := σ_6) (fun j _ _ => eσ_8_i _ (by first | omega | (simp only [vb] at *; omega)))]; first | exact hvσ_6 | assumption
            refine g_ifB_eq h dX12_aLine_135 (fun c135 => ?_) (fun c135 => ?_)
            ·
              refine g_iconst h dX12_aLine_142 (by decide) ?_
              exact g_zret h hQ dX12_aLine_143 (show narrow .boolean (.int (b2i false)) = .int (b2i false) from narrow_b2i _) (congrArg (fun z => some (Value.int (b2i z))) (show (decide ((ln9 x L (0, e, μ, b5, b6)).1 = 0)) = false by rw [hR]; first | rfl | exact decide_eq_true rfl | exact decide_eq_false hq9 | exact decide_eq_false (tff_0 (by decide)) | exact c115 | exact c135 | exact c165 | exact c185 | exact c208 | exact c231 | exact c251 | decide)) (by exact ⟨(by first | (rw [hR]; exact (hvσ_8).trans (by simp only [eμ_7]; exact if_neg hq9)) | (rw [hR]; exact (hvσ_8).trans (by simp only [eμ_7]; exact if_pos hq9)) | (rw [hR]; exact hvσ_8) | fail), (by first | exact ht5004_σ_8 | assumption | fail), (by rw [hR]; exact ht5005_σ_8), (by rw [hR]; exact ht5006_σ_8), (by rw [hR]; exact ht5007_σ_8), (by rw [hR]; exact ht5009_σ_8), (by first | (rw [hR]; exact ht4004_σ_8) | (rw [hR]; exact (ht4004_σ_8).trans (if_neg (by first | exact tff_0 (by decide) | decide)).symm) | fail), (by first | exact hcTX_σ_8 | assumption | fail), (by rw [hR]; exact hcVL_σ_8), (by first | (intro _; rw [hR]; exact hcTD_σ_8) | (intro z; rw [hR] at z; exact absurd z hq9) | (intro z; rw [hR] at z; exact absurd z (by first | exact tff_0 (by decide) | decide)) | fail), (by exact hcFR_σ_8)⟩)
            ·
              refine g_iconst h dX12_aLine_138 (by decide) ?_
              refine g_goto h dX12_aLine_139 ?_
              exact g_zret h hQ dX12_aLine_143 (show narrow .boolean (.int (b2i true)) = .int (b2i true) from narrow_b2i _) (congrArg (fun z => some (Value.int (b2i z))) (show (decide ((ln9 x L (0, e, μ, b5, b6)).1 = 0)) = true by rw [hR]; first | rfl | exact decide_eq_true rfl | exact decide_eq_false hq9 | exact decide_eq_false (tff_0 (by decide)) | exact c115 | exact c135 | exact c165 | exact c185 | exact c208 | exact c231 | exact c251 | decide)) (by exact ⟨(by first | (rw [hR]; exact (hvσ_8).trans (by simp only [eμ_7]; exact if_neg hq9)) | (rw [hR]; exact (hvσ_8).trans (by simp only [eμ_7]; exact if_pos hq9)) | (rw [hR]; exact hvσ_8) | fail), (by first | exact ht5004_σ_8 | assumption | fail), (by rw [hR]; exact ht5005_σ_8), (by rw [hR]; exact ht5006_σ_8), (by rw [hR]; exact ht5007_σ_8), (by rw [hR]; exact ht5009_σ_8), (by first | (rw [hR]; exact ht4004_σ_8) | (rw [hR]; exact (ht4004_σ_8).trans (if_neg (by first | exact tff_0 (by decide) | decide)).symm) | fail), (by first | exact hcTX_σ_8 | assumption | fail), (by rw [hR]; exact hcVL_σ_8), (by first | (intro _; rw [hR]; exact hcTD_σ_8) | (intro z; rw [hR] at z; exact absurd z hq9) | (intro z; rw [hR] at z; exact absurd z (by first | exact tff_0 (by decide) | decide)) | fail), (by exact hcFR_σ_8)⟩)
        ·
          refine g_tsw (off := 83) (tgt := 144) h dX12_aLine_61 (nI 2) (by rw [hc61]) (by decide) (by decide) (by decide +kernel) (by decide) ?_
          have J155 : ∀ (bo : Bool), (bo = decide (k = 2)) → G X w 2 155 [(0, .ref (w.1 0)), (1, .int (nI k))] [.int (b2i bo), .ref (w.1 0)] σ_2 := by
            intro bo hbo
            refine g_cvi (rest := []) h (r_anAir hW bo (txE x L e) L x p0 μ (by first | omega | assumption | fail) (by first | omega | assumption | fail) (by first | exact hvσ_2 | assumption | fail) (by assumption) (by first | exact ht5004_σ_2 | assumption | fail) (by first | exact ht5005_σ_2 | assumption | fail) (by first | exact ht5006_σ_2 | assumption | fail) (by first | exact ht5007_σ_2 | assumption | fail) (by first | exact ht5009_σ_2 | assumption | fail) (by first | exact ht4004_σ_2 | assumption | fail) (by first | exact hcTX_σ_2 | assumption | fail) (by first | exact hcVL_σ_2 | assumption | fail)) lX12_anAir mX12_259 (Nat.lt_of_lt_of_le (by decide) (Nat.le_refl _)) (by decide) sc_0 rfl rfl rfl rfl dX12_aLine_155 (fun σ_9 eσ_9 => ?_)
            obtain ⟨eσ_9_a, eσ_9_b, eσ_9_c, eσ_9_d, eσ_9_e, eσ_9_f, eσ_9_g, eσ_9_h, eσ_9_i, eσ_9_j⟩ := eσ_9
            have eσ_9_a : vw 0 σ_9 = pk0 (ar9 x L μ (kb bo) (na9 (kb bo)) 0 0 (txE x L e)).1 (EF μ (kb bo) (txV x L (txE x L e)) (txV x L (txE x L (txE x L e))) (txV x L (txE x L (txE x L (txE x L e))))) μ := eσ_9_a
            have eσ_9_b : σ_9 5004 = (nI L) := eσ_9_b
            have eσ_9_c : σ_9 5005 = (nI (kr (txK x L (ar9 x L μ (kb bo) (na9 (kb bo)) 0 0 (txE x L e)).2))) := eσ_9_c
            have eσ_9_d : σ_9 5006 = (nI (txS x L (ar9 x L μ (kb bo) (na9 (kb bo)) 0 0 (txE x L e)).2)) := eσ_9_d
            have eσ_9_e : σ_9 5007 = (nI (txE x L (ar9 x L μ (kb bo) (na9 (kb bo)) 0 0 (txE x L e)).2)) := eσ_9_e
            have eσ_9_f : σ_9 5009 = (nI ((ar9 x L μ (kb bo) (na9 (kb bo)) 0 0 (txE x L e)).1)) := eσ_9_f
            have eσ_9_g : σ_9 4004 = (if (ar9 x L μ (kb bo) (na9 (kb bo)) 0 0 (txE x L e)).1 = 0 then p0 else nI (txS x L (ar9 x L μ (kb bo) (na9 (kb bo)) 0 0 (txE x L e)).2)) := eσ_9_g
            have eσ_9_h : TX 5600 σ_9 L x := eσ_9_h
            have eσ_9_i : VL σ_9 x L (ar9 x L μ (kb bo) (na9 (kb bo)) 0 0 (txE x L e)).2 := eσ_9_i
            have eσ_9_j : ∀ a, (464 ≤ a ∧ a ≠ 5009 ∧ a ≠ 4004 ∧ (a < 5005 ∨ 5008 < a) ∨ a = 10) → σ_9 a = σ_2 a := eσ_9_j
            have ht5004_σ_9 : σ_9 5004 = (nI L) := eσ_9_b
            have ht5005_σ_9 : σ_9 5005 = (nI (kr (txK x L (ar9 x L μ (kb bo) (na9 (kb bo)) 0 0 (txE x L e)).2))) := eσ_9_c
            have ht5006_σ_9 : σ_9 5006 = (nI (txS x L (ar9 x L μ (kb bo) (na9 (kb bo)) 0 0 (txE x L e)).2)) := eσ_9_d
            have ht5007_σ_9 : σ_9 5007 = (nI (txE x L (ar9 x L μ (kb bo) (na9 (kb bo)) 0 0 (txE x L e)).2)) := eσ_9_e
            have ht5009_σ_9 : σ_9 5009 = (nI ((ar9 x L μ (kb bo) (na9 (kb bo)) 0 0 (txE x L e)).1)) := eσ_9_f
            have ht4004_σ_9 : σ_9 4004 = (if (ar9 x L μ (kb bo) (na9 (kb bo)) 0 0 (txE x L e)).1 = 0 then p0 else nI (txS x L (ar9 x L μ (kb bo) (na9 (kb bo)) 0 0 (txE x L e)).2)) := eσ_9_g
            have hcTX_σ_9 : TX 5600 σ_9 L x := eσ_9_h
            have hcVL_σ_9 : VL σ_9 x L (ar9 x L μ (kb bo) (na9 (kb bo)) 0 0 (txE x L e)).2 := eσ_9_i
            have hcFR_σ_9 : ∀ a, (464 ≤ a ∧ a ≠ 5010 ∧ a ≠ 5009 ∧ a ≠ 4004 ∧ (a < 5005 ∨ 5008 < a) ∨ a = 10) → σ_9 a = σ a := by intro a ha; exact Eq.trans (b := σ_2 a) (eσ_9_j a (by first | omega | (simp only [vb] at *; omega))) (hcFR_σ_2 a ha)
            have hcTD_σ_9 : TD σ_9 (b5 || decide (k = 5)) (b6 || decide (k = 6)) := by exact TD.fr hcTD_σ_2 (eσ_9_j _ (by first | omega | (simp only [vb] at *; omega)))
            obtain ⟨μ_10, eμ_10⟩ : ∃ μ_10 : Nat → Int32, μ_10 = pk0 (ar9 x L μ (kb bo) (na9 (kb bo)) 0 0 (txE x L e)).1 (EF μ (kb bo) (txV x L (txE x L e)) (txV x L (txE x L (txE x L e))) (txV x L (txE x L (txE x L (txE x L e))))) μ := ⟨_, rfl⟩
            have hvσ_9 : vw 0 σ_9 = μ_10 := by rw [eμ_10]; exact eσ_9_a
            refine g_ifB_eq h dX12_aLine_158 (fun c158 => ?_) (fun c158 => ?_)
            ·
              have hq9 : (ar9 x L μ (kb bo) (na9 (kb bo)) 0 0 (txE x L e)).1 ≠ 0 := of_decide_eq_false c158
              have hR := ln_f (b5 := b5) (b6 := b6) hK1 hW1 hnt (kb_k hbo (by omega)) hq9
              refine g_iconst h dX12_aLine_172 (by decide) ?_
              exact g_zret h hQ dX12_aLine_173 (show narrow .boolean (.int (b2i false)) = .int (b2i false) from narrow_b2i _) (congrArg (fun z => some (Value.int (b2i z))) (show (decide ((ln9 x L (0, e, μ, b5, b6)).1 = 0)) = false by rw [hR]; first | rfl | exact decide_eq_true rfl | exact decide_eq_false hq9 | exact decide_eq_false (tff_0 (by decide)) | exact c115 | exact c135 | exact c165 | exact c185 | exact c208 | exact c231 | exact c251 | decide)) (by exact ⟨(by first | (rw [hR]; exact (hvσ_9).trans (by simp only [eμ_10]; exact if_neg hq9)) | (rw [hR]; exact (hvσ_9).trans (by simp only [eμ_10]; exact if_pos hq9)) | (rw [hR]; exact hvσ_9) | fail), (by first | exact ht5004_σ_9 | assumption | fail), (by rw [hR]; exact ht5005_σ_9), (by rw [hR]; exact ht5006_σ_9), (by rw [hR]; exact ht5007_σ_9), (by rw [hR]; exact ht5009_σ_9), (by first | (rw [hR]; exact ht4004_σ_9) | (rw [hR]; exact (ht4004_σ_9).trans (if_neg (by first | exact tff_0 (by decide) | decide)).symm) | fail), (by first | exact hcTX_σ_9 | assumption | fail), (by rw [hR]; exact hcVL_σ_9), (by first | (intro _; rw [hR]; exact hcTD_σ_9) | (intro z; rw [hR] at z; exact absurd z hq9) | (intro z; rw [hR] at z; exact absurd z (by first | exact tff_0 (by decide) | decide)) | fail), (by exact hcFR_σ_9)⟩)
            ·
              have hq9 : (ar9 x L μ (kb bo) (na9 (kb bo)) 0 0 (txE x L e)).1 = 0 := of_decide_eq_true c158
              have hR := ln_y (b5 := b5) (b6 := b6) hK1 hW1 hnt (kb_k hbo (by omega)) hq9
              have hab := (ar9_b (x := x) (L := L) (μ := μ) (k := (kb bo)) (na9 (kb bo)) 0 0 (txE x L e) hb.2.2).2.2
              have ht5009_σ_9 : σ_9 5009 = (nI 0) := by rw [ht5009_σ_9, hq9]
              have ht4004_σ_9 : σ_9 4004 = p0 := by rw [ht4004_σ_9, if_pos hq9]
              refine g_aload_n h dX12_aLine_161 0 rfl ?_
              refine g_cvi (rest := []) h (r_closes hW ((ar9 x L μ (kb bo) (na9 (kb bo)) 0 0 (txE x L e)).2) L x p0 (by first | omega | assumption | fail) (by first | omega | assumption | fail) (by first | exact ht5004_σ_9 | assumption | fail) (by first | exact ht5005_σ_9 | assumption | fail) (by first | exact ht5006_σ_9 | assumption | fail) (by first | exact ht5007_σ_9 | assumption | fail) (by first | exact ht5009_σ_9 | assumption | fail) (by first | exact ht4004_σ_9 | assumption | fail) (by first | exact hcTX_σ_9 | assumption | fail) (by first | exact hcVL_σ_9 | assumption | fail)) lX12_closes mX12_253 (Nat.lt_of_lt_of_le (by decide) (Nat.le_refl _)) (by decide) sc_0 rfl rfl rfl rfl dX12_aLine_162 (fun σ_11 eσ_11 => ?_)
              obtain ⟨eσ_11_a, eσ_11_b, eσ_11_c, eσ_11_d, eσ_11_e, eσ_11_f, eσ_11_g, eσ_11_h, eσ_11_i⟩ := eσ_11
              have eσ_11_a : σ_11 5004 = (nI L) := eσ_11_a
              have eσ_11_b : σ_11 5005 = (nI (kr (txK x L (cl9 x L ((ar9 x L μ (kb bo) (na9 (kb bo)) 0 0 (txE x L e)).2))))) := eσ_11_b
              have eσ_11_c : σ_11 5006 = (nI (txS x L (cl9 x L ((ar9 x L μ (kb bo) (na9 (kb bo)) 0 0 (txE x L e)).2)))) := eσ_11_c
              have eσ_11_d : σ_11 5007 = (nI (txE x L (cl9 x L ((ar9 x L μ (kb bo) (na9 (kb bo)) 0 0 (txE x L e)).2)))) := eσ_11_d
              have eσ_11_e : σ_11 5009 = (nI (tf9 (txK x L ((ar9 x L μ (kb bo) (na9 (kb bo)) 0 0 (txE x L e)).2)) 3)) := eσ_11_e
              have eσ_11_f : σ_11 4004 = (if tf9 (txK x L ((ar9 x L μ (kb bo) (na9 (kb bo)) 0 0 (txE x L e)).2)) 3 = 0 then p0 else nI (txS x L (cl9 x L ((ar9 x L μ (kb bo) (na9 (kb bo)) 0 0 (txE x L e)).2)))) := eσ_11_f
              have eσ_11_g : TX 5600 σ_11 L x := eσ_11_g
              have eσ_11_h : VL σ_11 x L (cl9 x L ((ar9 x L μ (kb bo) (na9 (kb bo)) 0 0 (txE x L e)).2)) := eσ_11_h
              have eσ_11_i : ∀ a, (a ≠ 5009 ∧ a ≠ 4004 ∧ (a < 5005 ∨ 5008 < a)) → σ_11 a = σ_9 a := eσ_11_i
              have ht5004_σ_11 : σ_11 5004 = (nI L) := eσ_11_a
              have ht5005_σ_11 : σ_11 5005 = (nI (kr (txK x L (cl9 x L ((ar9 x L μ (kb bo) (na9 (kb bo)) 0 0 (txE x L e)).2))))) := eσ_11_b
              have ht5006_σ_11 : σ_11 5006 = (nI (txS x L (cl9 x L ((ar9 x L μ (kb bo) (na9 (kb bo)) 0 0 (txE x L e)).2)))) := eσ_11_c
              have ht5007_σ_11 : σ_11 5007 = (nI (txE x L (cl9 x L ((ar9 x L μ (kb bo) (na9 (kb bo)) 0 0 (txE x L e)).2)))) := eσ_11_d
              have ht5009_σ_11 : σ_11 5009 = (nI (tf9 (txK x L ((ar9 x L μ (kb bo) (na9 (kb bo)) 0 0 (txE x L e)).2)) 3)) := eσ_11_e
              have ht4004_σ_11 : σ_11 4004 = (if tf9 (txK x L ((ar9 x L μ (kb bo) (na9 (kb bo)) 0 0 (txE x L e)).2)) 3 = 0 then p0 else nI (txS x L (cl9 x L ((ar9 x L μ (kb bo) (na9 (kb bo)) 0 0 (txE x L e)).2)))) := eσ_11_f
              have hcTX_σ_11 : TX 5600 σ_11 L x := eσ_11_g
              have hcVL_σ_11 : VL σ_11 x L (cl9 x L ((ar9 x L μ (kb bo) (na9 (kb bo)) 0 0 (txE x L e)).2)) := eσ_11_h
              have hcFR_σ_11 : ∀ a, (464 ≤ a ∧ a ≠ 5010 ∧ a ≠ 5009 ∧ a ≠ 4004 ∧ (a < 5005 ∨ 5008 < a) ∨ a = 10) → σ_11 a = σ a := by intro a ha; exact Eq.trans (b := σ_9 a) (eσ_11_i a (by first | omega | (simp only [vb] at *; omega))) (hcFR_σ_9 a ha)
              have hcTD_σ_11 : TD σ_11 (b5 || decide (k = 5)) (b6 || decide (k = 6)) := by exact TD.fr hcTD_σ_9 (eσ_11_i _ (by first | omega | (simp only [vb] at *; omega)))
              have hvσ_11 : vw 0 σ_11 = μ_10 := by rw [vw_fr (σ := σ_9) (fun j _ _ => eσ_11_i _ (by first | omega | (simp only [vb] at *; omega)))]; first | exact hvσ_9 | assumption
              refine g_ifB_eq h dX12_aLine_165 (fun c165 => ?_) (fun c165 => ?_)
              ·
                refine g_iconst h dX12_aLine_172 (by decide) ?_
                exact g_zret h hQ dX12_aLine_173 (show narrow .boolean (.int (b2i false)) = .int (b2i false) from narrow_b2i _) (congrArg (fun z => some (Value.int (b2i z))) (show (decide ((ln9 x L (0, e, μ, b5, b6)).1 = 0)) = false by rw [hR]; first | rfl | exact decide_eq_true rfl | exact decide_eq_false hq9 | exact decide_eq_false (tff_0 (by decide)) | exact c115 | exact c135 | exact c165 | exact c185 | exact c208 | exact c231 | exact c251 | decide)) (by exact ⟨(by first | (rw [hR]; exact (hvσ_11).trans (by simp only [eμ_10]; exact if_neg hq9)) | (rw [hR]; exact (hvσ_11).trans (by simp only [eμ_10]; exact if_pos hq9)) | (rw [hR]; exact hvσ_11) | fail), (by first | exact ht5004_σ_11 | assumption | fail), (by rw [hR]; exact ht5005_σ_11), (by rw [hR]; exact ht5006_σ_11), (by rw [hR]; exact ht5007_σ_11), (by rw [hR]; exact ht5009_σ_11), (by first | (rw [hR]; exact ht4004_σ_11) | (rw [hR]; exact (ht4004_σ_11).trans (if_neg (by first | exact tff_0 (by decide) | decide)).symm) | fail), (by first | exact hcTX_σ_11 | assumption | fail), (by rw [hR]; exact hcVL_σ_11), (by first | (intro _; rw [hR]; exact hcTD_σ_11) | (intro z; rw [hR] at z; exact absurd z hq9) | (intro z; rw [hR] at z; exact absurd z (by first | exact tff_0 (by decide) | decide)) | fail), (by exact hcFR_σ_11)⟩)
              ·
                refine g_iconst h dX12_aLine_168 (by decide) ?_
                refine g_goto h dX12_aLine_169 ?_
                exact g_zret h hQ dX12_aLine_173 (show narrow .boolean (.int (b2i true)) = .int (b2i true) from narrow_b2i _) (congrArg (fun z => some (Value.int (b2i z))) (show (decide ((ln9 x L (0, e, μ, b5, b6)).1 = 0)) = true by rw [hR]; first | rfl | exact decide_eq_true rfl | exact decide_eq_false hq9 | exact decide_eq_false (tff_0 (by decide)) | exact c115 | exact c135 | exact c165 | exact c185 | exact c208 | exact c231 | exact c251 | decide)) (by exact ⟨(by first | (rw [hR]; exact (hvσ_11).trans (by simp only [eμ_10]; exact if_neg hq9)) | (rw [hR]; exact (hvσ_11).trans (by simp only [eμ_10]; exact if_pos hq9)) | (rw [hR]; exact hvσ_11) | fail), (by first | exact ht5004_σ_11 | assumption | fail), (by rw [hR]; exact ht5005_σ_11), (by rw [hR]; exact ht5006_σ_11), (by rw [hR]; exact ht5007_σ_11), (by rw [hR]; exact ht5009_σ_11), (by first | (rw [hR]; exact ht4004_σ_11) | (rw [hR]; exact (ht4004_σ_11).trans (if_neg (by first | exact tff_0 (by decide) | decide)).symm) | fail), (by first | exact hcTX_σ_11 | assumption | fail), (by rw [hR]; exact hcVL_σ_11), (by first | (intro _; rw [hR]; exact hcTD_σ_11) | (intro z; rw [hR] at z; exact absurd z hq9) | (intro z; rw [hR] at z; exact absurd z (by first | exact tff_0 (by decide) | decide)) | fail), (by exact hcFR_σ_11)⟩)
          refine g_aload_n h dX12_aLine_144 0 rfl ?_
          refine g_iload_n h dX12_aLine_145 1 rfl ?_
          refine g_iconst h dX12_aLine_146 (by decide) ?_
          refine g_icmpN_ne h dX12_aLine_147 (by omega) (by omega) (fun c147 => ?_) (fun c147 => ?_)
          ·
            refine g_iconst h dX12_aLine_154 (by decide) ?_
            exact J155 false (by first | exact (decide_eq_true (by omega)).symm | exact (decide_eq_false (by omega)).symm | fail | fail)
          ·
            refine g_iconst h dX12_aLine_150 (by decide) ?_
            refine g_goto h dX12_aLine_151 ?_
            exact J155 true (by first | exact (decide_eq_true (by omega)).symm | exact (decide_eq_false (by omega)).symm | fail | fail)
        ·
          refine g_tsw (off := 83) (tgt := 144) h dX12_aLine_61 (nI 3) (by rw [hc61]) (by decide) (by decide) (by decide +kernel) (by decide) ?_
          have J155 : ∀ (bo : Bool), (bo = decide (k = 2)) → G X w 2 155 [(0, .ref (w.1 0)), (1, .int (nI k))] [.int (b2i bo), .ref (w.1 0)] σ_2 := by
            intro bo hbo
            refine g_cvi (rest := []) h (r_anAir hW bo (txE x L e) L x p0 μ (by first | omega | assumption | fail) (by first | omega | assumption | fail) (by first | exact hvσ_2 | assumption | fail) (by assumption) (by first | exact ht5004_σ_2 | assumption | fail) (by first | exact ht5005_σ_2 | assumption | fail) (by first | exact ht5006_σ_2 | assumption | fail) (by first | exact ht5007_σ_2 | assumption | fail) (by first | exact ht5009_σ_2 | assumption | fail) (by first | exact ht4004_σ_2 | assumption | fail) (by first | exact hcTX_σ_2 | assumption | fail) (by first | exact hcVL_σ_2 | assumption | fail)) lX12_anAir mX12_259 (Nat.lt_of_lt_of_le (by decide) (Nat.le_refl _)) (by decide) sc_0 rfl rfl rfl rfl dX12_aLine_155 (fun σ_12 eσ_12 => ?_)
            obtain ⟨eσ_12_a, eσ_12_b, eσ_12_c, eσ_12_d, eσ_12_e, eσ_12_f, eσ_12_g, eσ_12_h, eσ_12_i, eσ_12_j⟩ := eσ_12
            have eσ_12_a : vw 0 σ_12 = pk0 (ar9 x L μ (kb bo) (na9 (kb bo)) 0 0 (txE x L e)).1 (EF μ (kb bo) (txV x L (txE x L e)) (txV x L (txE x L (txE x L e))) (txV x L (txE x L (txE x L (txE x L e))))) μ := eσ_12_a
            have eσ_12_b : σ_12 5004 = (nI L) := eσ_12_b
            have eσ_12_c : σ_12 5005 = (nI (kr (txK x L (ar9 x L μ (kb bo) (na9 (kb bo)) 0 0 (txE x L e)).2))) := eσ_12_c
            have eσ_12_d : σ_12 5006 = (nI (txS x L (ar9 x L μ (kb bo) (na9 (kb bo)) 0 0 (txE x L e)).2)) := eσ_12_d
            have eσ_12_e : σ_12 5007 = (nI (txE x L (ar9 x L μ (kb bo) (na9 (kb bo)) 0 0 (txE x L e)).2)) := eσ_12_e
            have eσ_12_f : σ_12 5009 = (nI ((ar9 x L μ (kb bo) (na9 (kb bo)) 0 0 (txE x L e)).1)) := eσ_12_f
            have eσ_12_g : σ_12 4004 = (if (ar9 x L μ (kb bo) (na9 (kb bo)) 0 0 (txE x L e)).1 = 0 then p0 else nI (txS x L (ar9 x L μ (kb bo) (na9 (kb bo)) 0 0 (txE x L e)).2)) := eσ_12_g
            have eσ_12_h : TX 5600 σ_12 L x := eσ_12_h
            have eσ_12_i : VL σ_12 x L (ar9 x L μ (kb bo) (na9 (kb bo)) 0 0 (txE x L e)).2 := eσ_12_i
            have eσ_12_j : ∀ a, (464 ≤ a ∧ a ≠ 5009 ∧ a ≠ 4004 ∧ (a < 5005 ∨ 5008 < a) ∨ a = 10) → σ_12 a = σ_2 a := eσ_12_j
            have ht5004_σ_12 : σ_12 5004 = (nI L) := eσ_12_b
            have ht5005_σ_12 : σ_12 5005 = (nI (kr (txK x L (ar9 x L μ (kb bo) (na9 (kb bo)) 0 0 (txE x L e)).2))) := eσ_12_c
            have ht5006_σ_12 : σ_12 5006 = (nI (txS x L (ar9 x L μ (kb bo) (na9 (kb bo)) 0 0 (txE x L e)).2)) := eσ_12_d
            have ht5007_σ_12 : σ_12 5007 = (nI (txE x L (ar9 x L μ (kb bo) (na9 (kb bo)) 0 0 (txE x L e)).2)) := eσ_12_e
            have ht5009_σ_12 : σ_12 5009 = (nI ((ar9 x L μ (kb bo) (na9 (kb bo)) 0 0 (txE x L e)).1)) := eσ_12_f
            have ht4004_σ_12 : σ_12 4004 = (if (ar9 x L μ (kb bo) (na9 (kb bo)) 0 0 (txE x L e)).1 = 0 then p0 else nI (txS x L (ar9 x L μ (kb bo) (na9 (kb bo)) 0 0 (txE x L e)).2)) := eσ_12_g
            have hcTX_σ_12 : TX 5600 σ_12 L x := eσ_12_h
            have hcVL_σ_12 : VL σ_12 x L (ar9 x L μ (kb bo) (na9 (kb bo)) 0 0 (txE x L e)).2 := eσ_12_i
            have hcFR_σ_12 : ∀ a, (464 ≤ a ∧ a ≠ 5010 ∧ a ≠ 5009 ∧ a ≠ 4004 ∧ (a < 5005 ∨ 5008 < a) ∨ a = 10) → σ_12 a = σ a := by intro a ha; exact Eq.trans (b := σ_2 a) (eσ_12_j a (by first | omega | (simp only [vb] at *; omega))) (hcFR_σ_2 a ha)
            have hcTD_σ_12 : TD σ_12 (b5 || decide (k = 5)) (b6 || decide (k = 6)) := by exact TD.fr hcTD_σ_2 (eσ_12_j _ (by first | omega | (simp only [vb] at *; omega)))
            obtain ⟨μ_13, eμ_13⟩ : ∃ μ_13 : Nat → Int32, μ_13 = pk0 (ar9 x L μ (kb bo) (na9 (kb bo)) 0 0 (txE x L e)).1 (EF μ (kb bo) (txV x L (txE x L e)) (txV x L (txE x L (txE x L e))) (txV x L (txE x L (txE x L (txE x L e))))) μ := ⟨_, rfl⟩
            have hvσ_12 : vw 0 σ_12 = μ_13 := by rw [eμ_13]; exact eσ_12_a
            refine g_ifB_eq h dX12_aLine_158 (fun c158 => ?_) (fun c158 => ?_)
            ·
              have hq9 : (ar9 x L μ (kb bo) (na9 (kb bo)) 0 0 (txE x L e)).1 ≠ 0 := of_decide_eq_false c158
              have hR := ln_f (b5 := b5) (b6 := b6) hK1 hW1 hnt (kb_k hbo (by omega)) hq9
              refine g_iconst h dX12_aLine_172 (by decide) ?_
              exact g_zret h hQ dX12_aLine_173 (show narrow .boolean (.int (b2i false)) = .int (b2i false) from narrow_b2i _) (congrArg (fun z => some (Value.int (b2i z))) (show (decide ((ln9 x L (0, e, μ, b5, b6)).1 = 0)) = false by rw [hR]; first | rfl | exact decide_eq_true rfl | exact decide_eq_false hq9 | exact decide_eq_false (tff_0 (by decide)) | exact c115 | exact c135 | exact c165 | exact c185 | exact c208 | exact c231 | exact c251 | decide)) (by exact ⟨(by first | (rw [hR]; exact (hvσ_12).trans (by simp only [eμ_13]; exact if_neg hq9)) | (rw [hR]; exact (hvσ_12).trans (by simp only [eμ_13]; exact if_pos hq9)) | (rw [hR]; exact hvσ_12) | fail), (by first | exact ht5004_σ_12 | assumption | fail), (by rw [hR]; exact ht5005_σ_12), (by rw [hR]; exact ht5006_σ_12), (by rw [hR]; exact ht5007_σ_12), (by rw [hR]; exact ht5009_σ_12), (by first | (rw [hR]; exact ht4004_σ_12) | (rw [hR]; exact (ht4004_σ_12).trans (if_neg (by first | exact tff_0 (by decide) | decide)).symm) | fail), (by first | exact hcTX_σ_12 | assumption | fail), (by rw [hR]; exact hcVL_σ_12), (by first | (intro _; rw [hR]; exact hcTD_σ_12) | (intro z; rw [hR] at z; exact absurd z hq9) | (intro z; rw [hR] at z; exact absurd z (by first | exact tff_0 (by decide) | decide)) | fail), (by exact hcFR_σ_12)⟩)
            ·
              have hq9 : (ar9 x L μ (kb bo) (na9 (kb bo)) 0 0 (txE x L e)).1 = 0 := of_decide_eq_true c158
              have hR := ln_y (b5 := b5) (b6 := b6) hK1 hW1 hnt (kb_k hbo (by omega)) hq9
              have hab := (ar9_b (x := x) (L := L) (μ := μ) (k := (kb bo)) (na9 (kb bo)) 0 0 (txE x L e) hb.2.2).2.2
              have ht5009_σ_12 : σ_12 5009 = (nI 0) := by rw [ht5009_σ_12, hq9]
              have ht4004_σ_12 : σ_12 4004 = p0 := by rw [ht4004_σ_12, if_pos hq9]
              refine g_aload_n h dX12_aLine_161 0 rfl ?_
              refine g_cvi (rest := []) h (r_closes hW ((ar9 x L μ (kb bo) (na9 (kb bo)) 0 0 (txE x L e)).2) L x p0 (by first | omega | assumption | fail) (by first | omega | assumption | fail) (by first | exact ht5004_σ_12 | assumption | fail) (by first | exact ht5005_σ_12 | assumption | fail) (by first | exact ht5006_σ_12 | assumption | fail) (by first | exact ht5007_σ_12 | assumption | fail) (by first | exact ht5009_σ_12 | assumption | fail) (by first | exact ht4004_σ_12 | assumption | fail) (by first | exact hcTX_σ_12 | assumption | fail) (by first | exact hcVL_σ_12 | assumption | fail)) lX12_closes mX12_253 (Nat.lt_of_lt_of_le (by decide) (Nat.le_refl _)) (by decide) sc_0 rfl rfl rfl rfl dX12_aLine_162 (fun σ_14 eσ_14 => ?_)
              obtain ⟨eσ_14_a, eσ_14_b, eσ_14_c, eσ_14_d, eσ_14_e, eσ_14_f, eσ_14_g, eσ_14_h, eσ_14_i⟩ := eσ_14
              have eσ_14_a : σ_14 5004 = (nI L) := eσ_14_a
              have eσ_14_b : σ_14 5005 = (nI (kr (txK x L (cl9 x L ((ar9 x L μ (kb bo) (na9 (kb bo)) 0 0 (txE x L e)).2))))) := eσ_14_b
              have eσ_14_c : σ_14 5006 = (nI (txS x L (cl9 x L ((ar9 x L μ (kb bo) (na9 (kb bo)) 0 0 (txE x L e)).2)))) := eσ_14_c
              have eσ_14_d : σ_14 5007 = (nI (txE x L (cl9 x L ((ar9 x L μ (kb bo) (na9 (kb bo)) 0 0 (txE x L e)).2)))) := eσ_14_d
              have eσ_14_e : σ_14 5009 = (nI (tf9 (txK x L ((ar9 x L μ (kb bo) (na9 (kb bo)) 0 0 (txE x L e)).2)) 3)) := eσ_14_e
              have eσ_14_f : σ_14 4004 = (if tf9 (txK x L ((ar9 x L μ (kb bo) (na9 (kb bo)) 0 0 (txE x L e)).2)) 3 = 0 then p0 else nI (txS x L (cl9 x L ((ar9 x L μ (kb bo) (na9 (kb bo)) 0 0 (txE x L e)).2)))) := eσ_14_f
              have eσ_14_g : TX 5600 σ_14 L x := eσ_14_g
              have eσ_14_h : VL σ_14 x L (cl9 x L ((ar9 x L μ (kb bo) (na9 (kb bo)) 0 0 (txE x L e)).2)) := eσ_14_h
              have eσ_14_i : ∀ a, (a ≠ 5009 ∧ a ≠ 4004 ∧ (a < 5005 ∨ 5008 < a)) → σ_14 a = σ_12 a := eσ_14_i
              have ht5004_σ_14 : σ_14 5004 = (nI L) := eσ_14_a
              have ht5005_σ_14 : σ_14 5005 = (nI (kr (txK x L (cl9 x L ((ar9 x L μ (kb bo) (na9 (kb bo)) 0 0 (txE x L e)).2))))) := eσ_14_b
              have ht5006_σ_14 : σ_14 5006 = (nI (txS x L (cl9 x L ((ar9 x L μ (kb bo) (na9 (kb bo)) 0 0 (txE x L e)).2)))) := eσ_14_c
              have ht5007_σ_14 : σ_14 5007 = (nI (txE x L (cl9 x L ((ar9 x L μ (kb bo) (na9 (kb bo)) 0 0 (txE x L e)).2)))) := eσ_14_d
              have ht5009_σ_14 : σ_14 5009 = (nI (tf9 (txK x L ((ar9 x L μ (kb bo) (na9 (kb bo)) 0 0 (txE x L e)).2)) 3)) := eσ_14_e
              have ht4004_σ_14 : σ_14 4004 = (if tf9 (txK x L ((ar9 x L μ (kb bo) (na9 (kb bo)) 0 0 (txE x L e)).2)) 3 = 0 then p0 else nI (txS x L (cl9 x L ((ar9 x L μ (kb bo) (na9 (kb bo)) 0 0 (txE x L e)).2)))) := eσ_14_f
              have hcTX_σ_14 : TX 5600 σ_14 L x := eσ_14_g
              have hcVL_σ_14 : VL σ_14 x L (cl9 x L ((ar9 x L μ (kb bo) (na9 (kb bo)) 0 0 (txE x L e)).2)) := eσ_14_h
              have hcFR_σ_14 : ∀ a, (464 ≤ a ∧ a ≠ 5010 ∧ a ≠ 5009 ∧ a ≠ 4004 ∧ (a < 5005 ∨ 5008 < a) ∨ a = 10) → σ_14 a = σ a := by intro a ha; exact Eq.trans (b := σ_12 a) (eσ_14_i a (by first | omega | (simp only [vb] at *; omega))) (hcFR_σ_12 a ha)
              have hcTD_σ_14 : TD σ_14 (b5 || decide (k = 5)) (b6 || decide (k = 6)) := by exact TD.fr hcTD_σ_12 (eσ_14_i _ (by first | omega | (simp only [vb] at *; omega)))
              have hvσ_14 : vw 0 σ_14 = μ_13 := by rw [vw_fr (σ := σ_12) (fun j _ _ => eσ_14_i _ (by first | omega | (simp only [vb] at *; omega)))]; first | exact hvσ_12 | assumption
              refine g_ifB_eq h dX12_aLine_165 (fun c165 => ?_) (fun c165 => ?_)
              ·
                refine g_iconst h dX12_aLine_172 (by decide) ?_
                exact g_zret h hQ dX12_aLine_173 (show narrow .boolean (.int (b2i false)) = .int (b2i false) from narrow_b2i _) (congrArg (fun z => some (Value.int (b2i z))) (show (decide ((ln9 x L (0, e, μ, b5, b6)).1 = 0)) = false by rw [hR]; first | rfl | exact decide_eq_true rfl | exact decide_eq_false hq9 | exact decide_eq_false (tff_0 (by decide)) | exact c115 | exact c135 | exact c165 | exact c185 | exact c208 | exact c231 | exact c251 | decide)) (by exact ⟨(by first | (rw [hR]; exact (hvσ_14).trans (by simp only [eμ_13]; exact if_neg hq9)) | (rw [hR]; exact (hvσ_14).trans (by simp only [eμ_13]; exact if_pos hq9)) | (rw [hR]; exact hvσ_14) | fail), (by first | exact ht5004_σ_14 | assumption | fail), (by rw [hR]; exact ht5005_σ_14), (by rw [hR]; exact ht5006_σ_14), (by rw [hR]; exact ht5007_σ_14), (by rw [hR]; exact ht5009_σ_14), (by first | (rw [hR]; exact ht4004_σ_14) | (rw [hR]; exact (ht4004_σ_14).trans (if_neg (by first | exact tff_0 (by decide) | decide)).symm) | fail), (by first | exact hcTX_σ_14 | assumption | fail), (by rw [hR]; exact hcVL_σ_14), (by first | (intro _; rw [hR]; exact hcTD_σ_14) | (intro z; rw [hR] at z; exact absurd z hq9) | (intro z; rw [hR] at z; exact absurd z (by first | exact tff_0 (by decide) | decide)) | fail), (by exact hcFR_σ_14)⟩)
              ·
                refine g_iconst h dX12_aLine_168 (by decide) ?_
                refine g_goto h dX12_aLine_169 ?_
                exact g_zret h hQ dX12_aLine_173 (show narrow .boolean (.int (b2i true)) = .int (b2i true) from narrow_b2i _) (congrArg (fun z => some (Value.int (b2i z))) (show (decide ((ln9 x L (0, e, μ, b5, b6)).1 = 0)) = true by rw [hR]; first | rfl | exact decide_eq_true rfl | exact decide_eq_false hq9 | exact decide_eq_false (tff_0 (by decide)) | exact c115 | exact c135 | exact c165 | exact c185 | exact c208 | exact c231 | exact c251 | decide)) (by exact ⟨(by first | (rw [hR]; exact (hvσ_14).trans (by simp only [eμ_13]; exact if_neg hq9)) | (rw [hR]; exact (hvσ_14).trans (by simp only [eμ_13]; exact if_pos hq9)) | (rw [hR]; exact hvσ_14) | fail), (by first | exact ht5004_σ_14 | assumption | fail), (by rw [hR]; exact ht5005_σ_14), (by rw [hR]; exact ht5006_σ_14), (by rw [hR]; exact ht5007_σ_14), (by rw [hR]; exact ht5009_σ_14), (by first | (rw [hR]; exact ht4004_σ_14) | (rw [hR]; exact (ht4004_σ_14).trans (if_neg (by first | exact tff_0 (by decide) | decide)).symm) | fail), (by first | exact hcTX_σ_14 | assumption | fail), (by rw [hR]; exact hcVL_σ_14), (by first | (intro _; rw [hR]; exact hcTD_σ_14) | (intro z; rw [hR] at z; exact absurd z hq9) | (intro z; rw [hR] at z; exact absurd z (by first | exact tff_0 (by decide) | decide)) | fail), (by exact hcFR_σ_14)⟩)
          refine g_aload_n h dX12_aLine_144 0 rfl ?_
          refine g_iload_n h dX12_aLine_145 1 rfl ?_
          refine g_iconst h dX12_aLine_146 (by decide) ?_
          refine g_icmpN_ne h dX12_aLine_147 (by omega) (by omega) (fun c147 => ?_) (fun c147 => ?_)
          ·
            refine g_iconst h dX12_aLine_154 (by decide) ?_
            exact J155 false (by first | exact (decide_eq_true (by omega)).symm | exact (decide_eq_false (by omega)).symm | fail | fail)
          ·
            refine g_iconst h dX12_aLine_150 (by decide) ?_
            refine g_goto h dX12_aLine_151 ?_
            exact J155 true (by first | exact (decide_eq_true (by omega)).symm | exact (decide_eq_false (by omega)).symm | fail | fail)
        ·
          refine g_tsw (off := 113) (tgt := 174) h dX12_aLine_61 (nI 4) (by rw [hc61]) (by decide) (by decide) (by decide +kernel) (by decide) ?_
          refine g_aload_n h dX12_aLine_174 0 rfl ?_
          refine g_cvi (rest := []) h (r_anOff hW (txE x L e) L x p0 μ (by first | omega | assumption | fail) (by first | omega | assumption | fail) (by first | exact hvσ_2 | assumption | fail) (by assumption) (by first | exact ht5004_σ_2 | assumption | fail) (by first | exact ht5005_σ_2 | assumption | fail) (by first | exact ht5006_σ_2 | assumption | fail) (by first | exact ht5007_σ_2 | assumption | fail) (by first | exact ht5009_σ_2 | assumption | fail) (by first | exact ht4004_σ_2 | assumption | fail) (by first | exact hcTX_σ_2 | assumption | fail) (by first | exact hcVL_σ_2 | assumption | fail)) lX12_anOff mX12_263 (Nat.lt_of_lt_of_le (by decide) (Nat.le_refl _)) (by decide) sc_0 rfl rfl rfl rfl dX12_aLine_175 (fun σ_15 eσ_15 => ?_)
          obtain ⟨eσ_15_a, eσ_15_b, eσ_15_c, eσ_15_d, eσ_15_e, eσ_15_f, eσ_15_g, eσ_15_h, eσ_15_i, eσ_15_j⟩ := eσ_15
          have eσ_15_a : vw 0 σ_15 = pk0 (ar9 x L μ 4 (na9 4) 0 0 (txE x L e)).1 (EF μ 4 (txV x L (txE x L e)) (txV x L (txE x L (txE x L e))) (txV x L (txE x L (txE x L (txE x L e))))) μ := eσ_15_a
          have eσ_15_b : σ_15 5004 = (nI L) := eσ_15_b
          have eσ_15_c : σ_15 5005 = (nI (kr (txK x L (ar9 x L μ 4 (na9 4) 0 0 (txE x L e)).2))) := eσ_15_c
          have eσ_15_d : σ_15 5006 = (nI (txS x L (ar9 x L μ 4 (na9 4) 0 0 (txE x L e)).2)) := eσ_15_d
          have eσ_15_e : σ_15 5007 = (nI (txE x L (ar9 x L μ 4 (na9 4) 0 0 (txE x L e)).2)) := eσ_15_e
          have eσ_15_f : σ_15 5009 = (nI ((ar9 x L μ 4 (na9 4) 0 0 (txE x L e)).1)) := eσ_15_f
          have eσ_15_g : σ_15 4004 = (if (ar9 x L μ 4 (na9 4) 0 0 (txE x L e)).1 = 0 then p0 else nI (txS x L (ar9 x L μ 4 (na9 4) 0 0 (txE x L e)).2)) := eσ_15_g
          have eσ_15_h : TX 5600 σ_15 L x := eσ_15_h
          have eσ_15_i : VL σ_15 x L (ar9 x L μ 4 (na9 4) 0 0 (txE x L e)).2 := eσ_15_i
          have eσ_15_j : ∀ a, (464 ≤ a ∧ a ≠ 5009 ∧ a ≠ 4004 ∧ (a < 5005 ∨ 5008 < a) ∨ a = 10) → σ_15 a = σ_2 a := eσ_15_j
          have ht5004_σ_15 : σ_15 5004 = (nI L) := eσ_15_b
          have ht5005_σ_15 : σ_15 5005 = (nI (kr (txK x L (ar9 x L μ 4 (na9 4) 0 0 (txE x L e)).2))) := eσ_15_c
          have ht5006_σ_15 : σ_15 5006 = (nI (txS x L (ar9 x L μ 4 (na9 4) 0 0 (txE x L e)).2)) := eσ_15_d
          have ht5007_σ_15 : σ_15 5007 = (nI (txE x L (ar9 x L μ 4 (na9 4) 0 0 (txE x L e)).2)) := eσ_15_e
          have ht5009_σ_15 : σ_15 5009 = (nI ((ar9 x L μ 4 (na9 4) 0 0 (txE x L e)).1)) := eσ_15_f
          have ht4004_σ_15 : σ_15 4004 = (if (ar9 x L μ 4 (na9 4) 0 0 (txE x L e)).1 = 0 then p0 else nI (txS x L (ar9 x L μ 4 (na9 4) 0 0 (txE x L e)).2)) := eσ_15_g
          have hcTX_σ_15 : TX 5600 σ_15 L x := eσ_15_h
          have hcVL_σ_15 : VL σ_15 x L (ar9 x L μ 4 (na9 4) 0 0 (txE x L e)).2 := eσ_15_i
          have hcFR_σ_15 : ∀ a, (464 ≤ a ∧ a ≠ 5010 ∧ a ≠ 5009 ∧ a ≠ 4004 ∧ (a < 5005 ∨ 5008 < a) ∨ a = 10) → σ_15 a = σ a := by intro a ha; exact Eq.trans (b := σ_2 a) (eσ_15_j a (by first | omega | (simp only [vb] at *; omega))) (hcFR_σ_2 a ha)
          have hcTD_σ_15 : TD σ_15 (b5 || decide (k = 5)) (b6 || decide (k = 6)) := by exact TD.fr hcTD_σ_2 (eσ_15_j _ (by first | omega | (simp only [vb] at *; omega)))
          obtain ⟨μ_16, eμ_16⟩ : ∃ μ_16 : Nat → Int32, μ_16 = pk0 (ar9 x L μ 4 (na9 4) 0 0 (txE x L e)).1 (EF μ 4 (txV x L (txE x L e)) (txV x L (txE x L (txE x L e))) (txV x L (txE x L (txE x L (txE x L e))))) μ := ⟨_, rfl⟩
          have hvσ_15 : vw 0 σ_15 = μ_16 := by rw [eμ_16]; exact eσ_15_a
          refine g_ifB_eq h dX12_aLine_178 (fun c178 => ?_) (fun c178 => ?_)
          ·
            have hq9 : (ar9 x L μ 4 (na9 4) 0 0 (txE x L e)).1 ≠ 0 := of_decide_eq_false c178
            have hR := ln_f (b5 := b5) (b6 := b6) hK1 hW1 hnt hc61 hq9
            refine g_iconst h dX12_aLine_192 (by decide) ?_
            exact g_zret h hQ dX12_aLine_193 (show narrow .boolean (.int (b2i false)) = .int (b2i false) from narrow_b2i _) (congrArg (fun z => some (Value.int (b2i z))) (show (decide ((ln9 x L (0, e, μ, b5, b6)).1 = 0)) = false by rw [hR]; first | rfl | exact decide_eq_true rfl | exact decide_eq_false hq9 | exact decide_eq_false (tff_0 (by decide)) | exact c115 | exact c135 | exact c165 | exact c185 | exact c208 | exact c231 | exact c251 | decide)) (by exact ⟨(by first | (rw [hR]; exact (hvσ_15).trans (by simp only [eμ_16]; exact if_neg hq9)) | (rw [hR]; exact (hvσ_15).trans (by simp only [eμ_16]; exact if_pos hq9)) | (rw [hR]; exact hvσ_15) | fail), (by first | exact ht5004_σ_15 | assumption | fail), (by rw [hR]; exact ht5005_σ_15), (by rw [hR]; exact ht5006_σ_15), (by rw [hR]; exact ht5007_σ_15), (by rw [hR]; exact ht5009_σ_15), (by first | (rw [hR]; exact ht4004_σ_15) | (rw [hR]; exact (ht4004_σ_15).trans (if_neg (by first | exact tff_0 (by decide) | decide)).symm) | fail), (by first | exact hcTX_σ_15 | assumption | fail), (by rw [hR]; exact hcVL_σ_15), (by first | (intro _; rw [hR]; exact hcTD_σ_15) | (intro z; rw [hR] at z; exact absurd z hq9) | (intro z; rw [hR] at z; exact absurd z (by first | exact tff_0 (by decide) | decide)) | fail), (by exact hcFR_σ_15)⟩)
          ·
            have hq9 : (ar9 x L μ 4 (na9 4) 0 0 (txE x L e)).1 = 0 := of_decide_eq_true c178
            have hR := ln_y (b5 := b5) (b6 := b6) hK1 hW1 hnt hc61 hq9
            have hab := (ar9_b (x := x) (L := L) (μ := μ) (k := 4) (na9 4) 0 0 (txE x L e) hb.2.2).2.2
            have ht5009_σ_15 : σ_15 5009 = (nI 0) := by rw [ht5009_σ_15, hq9]
            have ht4004_σ_15 : σ_15 4004 = p0 := by rw [ht4004_σ_15, if_pos hq9]
            refine g_aload_n h dX12_aLine_181 0 rfl ?_
            refine g_cvi (rest := []) h (r_closes hW ((ar9 x L μ 4 (na9 4) 0 0 (txE x L e)).2) L x p0 (by first | omega | assumption | fail) (by first | omega | assumption | fail) (by first | exact ht5004_σ_15 | assumption | fail) (by first | exact ht5005_σ_15 | assumption | fail) (by first | exact ht5006_σ_15 | assumption | fail) (by first | exact ht5007_σ_15 | assumption | fail) (by first | exact ht5009_σ_15 | assumption | fail) (by first | exact ht4004_σ_15 | assumption | fail) (by first | exact hcTX_σ_15 | assumption | fail) (by first | exact hcVL_σ_15 | assumption | fail)) lX12_closes mX12_253 (Nat.lt_of_lt_of_le (by decide) (Nat.le_refl _)) (by decide) sc_0 rfl rfl rfl rfl dX12_aLine_182 (fun σ_17 eσ_17 => ?_)
            obtain ⟨eσ_17_a, eσ_17_b, eσ_17_c, eσ_17_d, eσ_17_e, eσ_17_f, eσ_17_g, eσ_17_h, eσ_17_i⟩ := eσ_17
            have eσ_17_a : σ_17 5004 = (nI L) := eσ_17_a
            have eσ_17_b : σ_17 5005 = (nI (kr (txK x L (cl9 x L ((ar9 x L μ 4 (na9 4) 0 0 (txE x L e)).2))))) := eσ_17_b
            have eσ_17_c : σ_17 5006 = (nI (txS x L (cl9 x L ((ar9 x L μ 4 (na9 4) 0 0 (txE x L e)).2)))) := eσ_17_c
            have eσ_17_d : σ_17 5007 = (nI (txE x L (cl9 x L ((ar9 x L μ 4 (na9 4) 0 0 (txE x L e)).2)))) := eσ_17_d
            have eσ_17_e : σ_17 5009 = (nI (tf9 (txK x L ((ar9 x L μ 4 (na9 4) 0 0 (txE x L e)).2)) 3)) := eσ_17_e
            have eσ_17_f : σ_17 4004 = (if tf9 (txK x L ((ar9 x L μ 4 (na9 4) 0 0 (txE x L e)).2)) 3 = 0 then p0 else nI (txS x L (cl9 x L ((ar9 x L μ 4 (na9 4) 0 0 (txE x L e)).2)))) := eσ_17_f
            have eσ_17_g : TX 5600 σ_17 L x := eσ_17_g
            have eσ_17_h : VL σ_17 x L (cl9 x L ((ar9 x L μ 4 (na9 4) 0 0 (txE x L e)).2)) := eσ_17_h
            have eσ_17_i : ∀ a, (a ≠ 5009 ∧ a ≠ 4004 ∧ (a < 5005 ∨ 5008 < a)) → σ_17 a = σ_15 a := eσ_17_i
            have ht5004_σ_17 : σ_17 5004 = (nI L) := eσ_17_a
            have ht5005_σ_17 : σ_17 5005 = (nI (kr (txK x L (cl9 x L ((ar9 x L μ 4 (na9 4) 0 0 (txE x L e)).2))))) := eσ_17_b
            have ht5006_σ_17 : σ_17 5006 = (nI (txS x L (cl9 x L ((ar9 x L μ 4 (na9 4) 0 0 (txE x L e)).2)))) := eσ_17_c
            have ht5007_σ_17 : σ_17 5007 = (nI (txE x L (cl9 x L ((ar9 x L μ 4 (na9 4) 0 0 (txE x L e)).2)))) := eσ_17_d
            have ht5009_σ_17 : σ_17 5009 = (nI (tf9 (txK x L ((ar9 x L μ 4 (na9 4) 0 0 (txE x L e)).2)) 3)) := eσ_17_e
            have ht4004_σ_17 : σ_17 4004 = (if tf9 (txK x L ((ar9 x L μ 4 (na9 4) 0 0 (txE x L e)).2)) 3 = 0 then p0 else nI (txS x L (cl9 x L ((ar9 x L μ 4 (na9 4) 0 0 (txE x L e)).2)))) := eσ_17_f
            have hcTX_σ_17 : TX 5600 σ_17 L x := eσ_17_g
            have hcVL_σ_17 : VL σ_17 x L (cl9 x L ((ar9 x L μ 4 (na9 4) 0 0 (txE x L e)).2)) := eσ_17_h
            have hcFR_σ_17 : ∀ a, (464 ≤ a ∧ a ≠ 5010 ∧ a ≠ 5009 ∧ a ≠ 4004 ∧ (a < 5005 ∨ 5008 < a) ∨ a = 10) → σ_17 a = σ a := by intro a ha; exact Eq.trans (b := σ_15 a) (eσ_17_i a (by first | omega | (simp only [vb] at *; omega))) (hcFR_σ_15 a ha)
            have hcTD_σ_17 : TD σ_17 (b5 || decide (k = 5)) (b6 || decide (k = 6)) := by exact TD.fr hcTD_σ_15 (eσ_17_i _ (by first | omega | (simp only [vb] at *; omega)))
            have hvσ_17 : vw 0 σ_17 = μ_16 := by rw [vw_fr (σ := σ_15) (fun j _ _ => eσ_17_i _ (by first | omega | (simp only [vb] at *; omega)))]; first | exact hvσ_15 | assumption
            refine g_ifB_eq h dX12_aLine_185 (fun c185 => ?_) (fun c185 => ?_)
            ·
              refine g_iconst h dX12_aLine_192 (by decide) ?_
              exact g_zret h hQ dX12_aLine_193 (show narrow .boolean (.int (b2i false)) = .int (b2i false) from narrow_b2i _) (congrArg (fun z => some (Value.int (b2i z))) (show (decide ((ln9 x L (0, e, μ, b5, b6)).1 = 0)) = false by rw [hR]; first | rfl | exact decide_eq_true rfl | exact decide_eq_false hq9 | exact decide_eq_false (tff_0 (by decide)) | exact c115 | exact c135 | exact c165 | exact c185 | exact c208 | exact c231 | exact c251 | decide)) (by exact ⟨(by first | (rw [hR]; exact (hvσ_17).trans (by simp only [eμ_16]; exact if_neg hq9)) | (rw [hR]; exact (hvσ_17).trans (by simp only [eμ_16]; exact if_pos hq9)) | (rw [hR]; exact hvσ_17) | fail), (by first | exact ht5004_σ_17 | assumption | fail), (by rw [hR]; exact ht5005_σ_17), (by rw [hR]; exact ht5006_σ_17), (by rw [hR]; exact ht5007_σ_17), (by rw [hR]; exact ht5009_σ_17), (by first | (rw [hR]; exact ht4004_σ_17) | (rw [hR]; exact (ht4004_σ_17).trans (if_neg (by first | exact tff_0 (by decide) | decide)).symm) | fail), (by first | exact hcTX_σ_17 | assumption | fail), (by rw [hR]; exact hcVL_σ_17), (by first | (intro _; rw [hR]; exact hcTD_σ_17) | (intro z; rw [hR] at z; exact absurd z hq9) | (intro z; rw [hR] at z; exact absurd z (by first | exact tff_0 (by decide) | decide)) | fail), (by exact hcFR_σ_17)⟩)
            ·
              refine g_iconst h dX12_aLine_188 (by decide) ?_
              refine g_goto h dX12_aLine_189 ?_
              exact g_zret h hQ dX12_aLine_193 (show narrow .boolean (.int (b2i true)) = .int (b2i true) from narrow_b2i _) (congrArg (fun z => some (Value.int (b2i z))) (show (decide ((ln9 x L (0, e, μ, b5, b6)).1 = 0)) = true by rw [hR]; first | rfl | exact decide_eq_true rfl | exact decide_eq_false hq9 | exact decide_eq_false (tff_0 (by decide)) | exact c115 | exact c135 | exact c165 | exact c185 | exact c208 | exact c231 | exact c251 | decide)) (by exact ⟨(by first | (rw [hR]; exact (hvσ_17).trans (by simp only [eμ_16]; exact if_neg hq9)) | (rw [hR]; exact (hvσ_17).trans (by simp only [eμ_16]; exact if_pos hq9)) | (rw [hR]; exact hvσ_17) | fail), (by first | exact ht5004_σ_17 | assumption | fail), (by rw [hR]; exact ht5005_σ_17), (by rw [hR]; exact ht5006_σ_17), (by rw [hR]; exact ht5007_σ_17), (by rw [hR]; exact ht5009_σ_17), (by first | (rw [hR]; exact ht4004_σ_17) | (rw [hR]; exact (ht4004_σ_17).trans (if_neg (by first | exact tff_0 (by decide) | decide)).symm) | fail), (by first | exact hcTX_σ_17 | assumption | fail), (by rw [hR]; exact hcVL_σ_17), (by first | (intro _; rw [hR]; exact hcTD_σ_17) | (intro z; rw [hR] at z; exact absurd z hq9) | (intro z; rw [hR] at z; exact absurd z (by first | exact tff_0 (by decide) | decide)) | fail), (by exact hcFR_σ_17)⟩)
        ·
          refine g_tsw (off := 133) (tgt := 194) h dX12_aLine_61 (nI 5) (by rw [hc61]) (by decide) (by decide) (by decide +kernel) (by decide) ?_
          refine g_aload_n h dX12_aLine_194 0 rfl ?_
          refine g_iconst h dX12_aLine_195 (by decide) ?_
          refine g_bipush h dX12_aLine_196 (by decide) ?_
          refine g_cvi (rest := []) h (r_aTime hW 3 9 5 (txE x L e) L x p0 μ (by first | omega | assumption | fail) (by first | omega | assumption | fail) (by first | exact hvσ_2 | assumption | fail) (by assumption) (by omega) (by first | exact ht5004_σ_2 | assumption | fail) (by first | exact ht5005_σ_2 | assumption | fail) (by first | exact ht5006_σ_2 | assumption | fail) (by first | exact ht5007_σ_2 | assumption | fail) (by first | exact ht5009_σ_2 | assumption | fail) (by first | exact ht4004_σ_2 | assumption | fail) (by first | exact hcTX_σ_2 | assumption | fail) (by first | exact hcVL_σ_2 | assumption | fail)) lX12_aTime mX12_266 (Nat.lt_of_lt_of_le (by decide) (Nat.le_refl _)) (by decide) sc_0 rfl rfl rfl rfl dX12_aLine_198 (fun σ_18 eσ_18 => ?_)
          obtain ⟨eσ_18_a, eσ_18_b, eσ_18_c, eσ_18_d, eσ_18_e, eσ_18_f, eσ_18_g, eσ_18_h, eσ_18_i, eσ_18_j⟩ := eσ_18
          have eσ_18_a : vw 0 σ_18 = pk0 (ar9 x L μ 5 (na9 5) 0 0 (txE x L e)).1 (EF μ 5 (txV x L (txE x L e)) (txV x L (txE x L (txE x L e))) (txV x L (txE x L (txE x L (txE x L e))))) μ := eσ_18_a
          have eσ_18_b : σ_18 5004 = (nI L) := eσ_18_b
          have eσ_18_c : σ_18 5005 = (nI (kr (txK x L (ar9 x L μ 5 (na9 5) 0 0 (txE x L e)).2))) := eσ_18_c
          have eσ_18_d : σ_18 5006 = (nI (txS x L (ar9 x L μ 5 (na9 5) 0 0 (txE x L e)).2)) := eσ_18_d
          have eσ_18_e : σ_18 5007 = (nI (txE x L (ar9 x L μ 5 (na9 5) 0 0 (txE x L e)).2)) := eσ_18_e
          have eσ_18_f : σ_18 5009 = (nI ((ar9 x L μ 5 (na9 5) 0 0 (txE x L e)).1)) := eσ_18_f
          have eσ_18_g : σ_18 4004 = (if (ar9 x L μ 5 (na9 5) 0 0 (txE x L e)).1 = 0 then p0 else nI (txS x L (ar9 x L μ 5 (na9 5) 0 0 (txE x L e)).2)) := eσ_18_g
          have eσ_18_h : TX 5600 σ_18 L x := eσ_18_h
          have eσ_18_i : VL σ_18 x L (ar9 x L μ 5 (na9 5) 0 0 (txE x L e)).2 := eσ_18_i
          have eσ_18_j : ∀ a, (464 ≤ a ∧ a ≠ 5009 ∧ a ≠ 4004 ∧ (a < 5005 ∨ 5008 < a) ∨ a = 10) → σ_18 a = σ_2 a := eσ_18_j
          have ht5004_σ_18 : σ_18 5004 = (nI L) := eσ_18_b
          have ht5005_σ_18 : σ_18 5005 = (nI (kr (txK x L (ar9 x L μ 5 (na9 5) 0 0 (txE x L e)).2))) := eσ_18_c
          have ht5006_σ_18 : σ_18 5006 = (nI (txS x L (ar9 x L μ 5 (na9 5) 0 0 (txE x L e)).2)) := eσ_18_d
          have ht5007_σ_18 : σ_18 5007 = (nI (txE x L (ar9 x L μ 5 (na9 5) 0 0 (txE x L e)).2)) := eσ_18_e
          have ht5009_σ_18 : σ_18 5009 = (nI ((ar9 x L μ 5 (na9 5) 0 0 (txE x L e)).1)) := eσ_18_f
          have ht4004_σ_18 : σ_18 4004 = (if (ar9 x L μ 5 (na9 5) 0 0 (txE x L e)).1 = 0 then p0 else nI (txS x L (ar9 x L μ 5 (na9 5) 0 0 (txE x L e)).2)) := eσ_18_g
          have hcTX_σ_18 : TX 5600 σ_18 L x := eσ_18_h
          have hcVL_σ_18 : VL σ_18 x L (ar9 x L μ 5 (na9 5) 0 0 (txE x L e)).2 := eσ_18_i
          have hcFR_σ_18 : ∀ a, (464 ≤ a ∧ a ≠ 5010 ∧ a ≠ 5009 ∧ a ≠ 4004 ∧ (a < 5005 ∨ 5008 < a) ∨ a = 10) → σ_18 a = σ a := by intro a ha; exact Eq.trans (b := σ_2 a) (eσ_18_j a (by first | omega | (simp only [vb] at *; omega))) (hcFR_σ_2 a ha)
          have hcTD_σ_18 : TD σ_18 (b5 || decide (k = 5)) (b6 || decide (k = 6)) := by exact TD.fr hcTD_σ_2 (eσ_18_j _ (by first | omega | (simp only [vb] at *; omega)))
          obtain ⟨μ_19, eμ_19⟩ : ∃ μ_19 : Nat → Int32, μ_19 = pk0 (ar9 x L μ 5 (na9 5) 0 0 (txE x L e)).1 (EF μ 5 (txV x L (txE x L e)) (txV x L (txE x L (txE x L e))) (txV x L (txE x L (txE x L (txE x L e))))) μ := ⟨_, rfl⟩
          have hvσ_18 : vw 0 σ_18 = μ_19 := by rw [eμ_19]; exact eσ_18_a
          refine g_ifB_eq h dX12_aLine_201 (fun c201 => ?_) (fun c201 => ?_)
          ·
            have hq9 : (ar9 x L μ 5 (na9 5) 0 0 (txE x L e)).1 ≠ 0 := of_decide_eq_false c201
            have hR := ln_f (b5 := b5) (b6 := b6) hK1 hW1 hnt hc61 hq9
            refine g_iconst h dX12_aLine_215 (by decide) ?_
            exact g_zret h hQ dX12_aLine_216 (show narrow .boolean (.int (b2i false)) = .int (b2i false) from narrow_b2i _) (congrArg (fun z => some (Value.int (b2i z))) (show (decide ((ln9 x L (0, e, μ, b5, b6)).1 = 0)) = false by rw [hR]; first | rfl | exact decide_eq_true rfl | exact decide_eq_false hq9 | exact decide_eq_false (tff_0 (by decide)) | exact c115 | exact c135 | exact c165 | exact c185 | exact c208 | exact c231 | exact c251 | decide)) (by exact ⟨(by first | (rw [hR]; exact (hvσ_18).trans (by simp only [eμ_19]; exact if_neg hq9)) | (rw [hR]; exact (hvσ_18).trans (by simp only [eμ_19]; exact if_pos hq9)) | (rw [hR]; exact hvσ_18) | fail), (by first | exact ht5004_σ_18 | assumption | fail), (by rw [hR]; exact ht5005_σ_18), (by rw [hR]; exact ht5006_σ_18), (by rw [hR]; exact ht5007_σ_18), (by rw [hR]; exact ht5009_σ_18), (by first | (rw [hR]; exact ht4004_σ_18) | (rw [hR]; exact (ht4004_σ_18).trans (if_neg (by first | exact tff_0 (by decide) | decide)).symm) | fail), (by first | exact hcTX_σ_18 | assumption | fail), (by rw [hR]; exact hcVL_σ_18), (by first | (intro _; rw [hR]; exact hcTD_σ_18) | (intro z; rw [hR] at z; exact absurd z hq9) | (intro z; rw [hR] at z; exact absurd z (by first | exact tff_0 (by decide) | decide)) | fail), (by exact hcFR_σ_18)⟩)
          ·
            have hq9 : (ar9 x L μ 5 (na9 5) 0 0 (txE x L e)).1 = 0 := of_decide_eq_true c201
            have hR := ln_y (b5 := b5) (b6 := b6) hK1 hW1 hnt hc61 hq9
            have hab := (ar9_b (x := x) (L := L) (μ := μ) (k := 5) (na9 5) 0 0 (txE x L e) hb.2.2).2.2
            have ht5009_σ_18 : σ_18 5009 = (nI 0) := by rw [ht5009_σ_18, hq9]
            have ht4004_σ_18 : σ_18 4004 = p0 := by rw [ht4004_σ_18, if_pos hq9]
            refine g_aload_n h dX12_aLine_204 0 rfl ?_
            refine g_cvi (rest := []) h (r_closes hW ((ar9 x L μ 5 (na9 5) 0 0 (txE x L e)).2) L x p0 (by first | omega | assumption | fail) (by first | omega | assumption | fail) (by first | exact ht5004_σ_18 | assumption | fail) (by first | exact ht5005_σ_18 | assumption | fail) (by first | exact ht5006_σ_18 | assumption | fail) (by first | exact ht5007_σ_18 | assumption | fail) (by first | exact ht5009_σ_18 | assumption | fail) (by first | exact ht4004_σ_18 | assumption | fail) (by first | exact hcTX_σ_18 | assumption | fail) (by first | exact hcVL_σ_18 | assumption | fail)) lX12_closes mX12_253 (Nat.lt_of_lt_of_le (by decide) (Nat.le_refl _)) (by decide) sc_0 rfl rfl rfl rfl dX12_aLine_205 (fun σ_20 eσ_20 => ?_)
            obtain ⟨eσ_20_a, eσ_20_b, eσ_20_c, eσ_20_d, eσ_20_e, eσ_20_f, eσ_20_g, eσ_20_h, eσ_20_i⟩ := eσ_20
            have eσ_20_a : σ_20 5004 = (nI L) := eσ_20_a
            have eσ_20_b : σ_20 5005 = (nI (kr (txK x L (cl9 x L ((ar9 x L μ 5 (na9 5) 0 0 (txE x L e)).2))))) := eσ_20_b
            have eσ_20_c : σ_20 5006 = (nI (txS x L (cl9 x L ((ar9 x L μ 5 (na9 5) 0 0 (txE x L e)).2)))) := eσ_20_c
            have eσ_20_d : σ_20 5007 = (nI (txE x L (cl9 x L ((ar9 x L μ 5 (na9 5) 0 0 (txE x L e)).2)))) := eσ_20_d
            have eσ_20_e : σ_20 5009 = (nI (tf9 (txK x L ((ar9 x L μ 5 (na9 5) 0 0 (txE x L e)).2)) 3)) := eσ_20_e
            have eσ_20_f : σ_20 4004 = (if tf9 (txK x L ((ar9 x L μ 5 (na9 5) 0 0 (txE x L e)).2)) 3 = 0 then p0 else nI (txS x L (cl9 x L ((ar9 x L μ 5 (na9 5) 0 0 (txE x L e)).2)))) := eσ_20_f
            have eσ_20_g : TX 5600 σ_20 L x := eσ_20_g
            have eσ_20_h : VL σ_20 x L (cl9 x L ((ar9 x L μ 5 (na9 5) 0 0 (txE x L e)).2)) := eσ_20_h
            have eσ_20_i : ∀ a, (a ≠ 5009 ∧ a ≠ 4004 ∧ (a < 5005 ∨ 5008 < a)) → σ_20 a = σ_18 a := eσ_20_i
            have ht5004_σ_20 : σ_20 5004 = (nI L) := eσ_20_a
            have ht5005_σ_20 : σ_20 5005 = (nI (kr (txK x L (cl9 x L ((ar9 x L μ 5 (na9 5) 0 0 (txE x L e)).2))))) := eσ_20_b
            have ht5006_σ_20 : σ_20 5006 = (nI (txS x L (cl9 x L ((ar9 x L μ 5 (na9 5) 0 0 (txE x L e)).2)))) := eσ_20_c
            have ht5007_σ_20 : σ_20 5007 = (nI (txE x L (cl9 x L ((ar9 x L μ 5 (na9 5) 0 0 (txE x L e)).2)))) := eσ_20_d
            have ht5009_σ_20 : σ_20 5009 = (nI (tf9 (txK x L ((ar9 x L μ 5 (na9 5) 0 0 (txE x L e)).2)) 3)) := eσ_20_e
            have ht4004_σ_20 : σ_20 4004 = (if tf9 (txK x L ((ar9 x L μ 5 (na9 5) 0 0 (txE x L e)).2)) 3 = 0 then p0 else nI (txS x L (cl9 x L ((ar9 x L μ 5 (na9 5) 0 0 (txE x L e)).2)))) := eσ_20_f
            have hcTX_σ_20 : TX 5600 σ_20 L x := eσ_20_g
            have hcVL_σ_20 : VL σ_20 x L (cl9 x L ((ar9 x L μ 5 (na9 5) 0 0 (txE x L e)).2)) := eσ_20_h
            have hcFR_σ_20 : ∀ a, (464 ≤ a ∧ a ≠ 5010 ∧ a ≠ 5009 ∧ a ≠ 4004 ∧ (a < 5005 ∨ 5008 < a) ∨ a = 10) → σ_20 a = σ a := by intro a ha; exact Eq.trans (b := σ_18 a) (eσ_20_i a (by first | omega | (simp only [vb] at *; omega))) (hcFR_σ_18 a ha)
            have hcTD_σ_20 : TD σ_20 (b5 || decide (k = 5)) (b6 || decide (k = 6)) := by exact TD.fr hcTD_σ_18 (eσ_20_i _ (by first | omega | (simp only [vb] at *; omega)))
            have hvσ_20 : vw 0 σ_20 = μ_19 := by rw [vw_fr (σ := σ_18) (fun j _ _ => eσ_20_i _ (by first | omega | (simp only [vb] at *; omega)))]; first | exact hvσ_18 | assumption
            refine g_ifB_eq h dX12_aLine_208 (fun c208 => ?_) (fun c208 => ?_)
            ·
              refine g_iconst h dX12_aLine_215 (by decide) ?_
              exact g_zret h hQ dX12_aLine_216 (show narrow .boolean (.int (b2i false)) = .int (b2i false) from narrow_b2i _) (congrArg (fun z => some (Value.int (b2i z))) (show (decide ((ln9 x L (0, e, μ, b5, b6)).1 = 0)) = false by rw [hR]; first | rfl | exact decide_eq_true rfl | exact decide_eq_false hq9 | exact decide_eq_false (tff_0 (by decide)) | exact c115 | exact c135 | exact c165 | exact c185 | exact c208 | exact c231 | exact c251 | decide)) (by exact ⟨(by first | (rw [hR]; exact (hvσ_20).trans (by simp only [eμ_19]; exact if_neg hq9)) | (rw [hR]; exact (hvσ_20).trans (by simp only [eμ_19]; exact if_pos hq9)) | (rw [hR]; exact hvσ_20) | fail), (by first | exact ht5004_σ_20 | assumption | fail), (by rw [hR]; exact ht5005_σ_20), (by rw [hR]; exact ht5006_σ_20), (by rw [hR]; exact ht5007_σ_20), (by rw [hR]; exact ht5009_σ_20), (by first | (rw [hR]; exact ht4004_σ_20) | (rw [hR]; exact (ht4004_σ_20).trans (if_neg (by first | exact tff_0 (by decide) | decide)).symm) | fail), (by first | exact hcTX_σ_20 | assumption | fail), (by rw [hR]; exact hcVL_σ_20), (by first | (intro _; rw [hR]; exact hcTD_σ_20) | (intro z; rw [hR] at z; exact absurd z hq9) | (intro z; rw [hR] at z; exact absurd z (by first | exact tff_0 (by decide) | decide)) | fail), (by exact hcFR_σ_20)⟩)
            ·
              refine g_iconst h dX12_aLine_211 (by decide) ?_
              refine g_goto h dX12_aLine_212 ?_
              exact g_zret h hQ dX12_aLine_216 (show narrow .boolean (.int (b2i true)) = .int (b2i true) from narrow_b2i _) (congrArg (fun z => some (Value.int (b2i z))) (show (decide ((ln9 x L (0, e, μ, b5, b6)).1 = 0)) = true by rw [hR]; first | rfl | exact decide_eq_true rfl | exact decide_eq_false hq9 | exact decide_eq_false (tff_0 (by decide)) | exact c115 | exact c135 | exact c165 | exact c185 | exact c208 | exact c231 | exact c251 | decide)) (by exact ⟨(by first | (rw [hR]; exact (hvσ_20).trans (by simp only [eμ_19]; exact if_neg hq9)) | (rw [hR]; exact (hvσ_20).trans (by simp only [eμ_19]; exact if_pos hq9)) | (rw [hR]; exact hvσ_20) | fail), (by first | exact ht5004_σ_20 | assumption | fail), (by rw [hR]; exact ht5005_σ_20), (by rw [hR]; exact ht5006_σ_20), (by rw [hR]; exact ht5007_σ_20), (by rw [hR]; exact ht5009_σ_20), (by first | (rw [hR]; exact ht4004_σ_20) | (rw [hR]; exact (ht4004_σ_20).trans (if_neg (by first | exact tff_0 (by decide) | decide)).symm) | fail), (by first | exact hcTX_σ_20 | assumption | fail), (by rw [hR]; exact hcVL_σ_20), (by first | (intro _; rw [hR]; exact hcTD_σ_20) | (intro z; rw [hR] at z; exact absurd z hq9) | (intro z; rw [hR] at z; exact absurd z (by first | exact tff_0 (by decide) | decide)) | fail), (by exact hcFR_σ_20)⟩)
        ·
          refine g_tsw (off := 156) (tgt := 217) h dX12_aLine_61 (nI 6) (by rw [hc61]) (by decide) (by decide) (by decide +kernel) (by decide) ?_
          refine g_aload_n h dX12_aLine_217 0 rfl ?_
          refine g_iconst h dX12_aLine_218 (by decide) ?_
          refine g_bipush h dX12_aLine_219 (by decide) ?_
          refine g_cvi (rest := []) h (r_aTime hW 4 99 6 (txE x L e) L x p0 μ (by first | omega | assumption | fail) (by first | omega | assumption | fail) (by first | exact hvσ_2 | assumption | fail) (by assumption) (by omega) (by first | exact ht5004_σ_2 | assumption | fail) (by first | exact ht5005_σ_2 | assumption | fail) (by first | exact ht5006_σ_2 | assumption | fail) (by first | exact ht5007_σ_2 | assumption | fail) (by first | exact ht5009_σ_2 | assumption | fail) (by first | exact ht4004_σ_2 | assumption | fail) (by first | exact hcTX_σ_2 | assumption | fail) (by first | exact hcVL_σ_2 | assumption | fail)) lX12_aTime mX12_266 (Nat.lt_of_lt_of_le (by decide) (Nat.le_refl _)) (by decide) sc_0 rfl rfl rfl rfl dX12_aLine_221 (fun σ_21 eσ_21 => ?_)
          obtain ⟨eσ_21_a, eσ_21_b, eσ_21_c, eσ_21_d, eσ_21_e, eσ_21_f, eσ_21_g, eσ_21_h, eσ_21_i, eσ_21_j⟩ := eσ_21
          have eσ_21_a : vw 0 σ_21 = pk0 (ar9 x L μ 6 (na9 6) 0 0 (txE x L e)).1 (EF μ 6 (txV x L (txE x L e)) (txV x L (txE x L (txE x L e))) (txV x L (txE x L (txE x L (txE x L e))))) μ := eσ_21_a
          have eσ_21_b : σ_21 5004 = (nI L) := eσ_21_b
          have eσ_21_c : σ_21 5005 = (nI (kr (txK x L (ar9 x L μ 6 (na9 6) 0 0 (txE x L e)).2))) := eσ_21_c
          have eσ_21_d : σ_21 5006 = (nI (txS x L (ar9 x L μ 6 (na9 6) 0 0 (txE x L e)).2)) := eσ_21_d
          have eσ_21_e : σ_21 5007 = (nI (txE x L (ar9 x L μ 6 (na9 6) 0 0 (txE x L e)).2)) := eσ_21_e
          have eσ_21_f : σ_21 5009 = (nI ((ar9 x L μ 6 (na9 6) 0 0 (txE x L e)).1)) := eσ_21_f
          have eσ_21_g : σ_21 4004 = (if (ar9 x L μ 6 (na9 6) 0 0 (txE x L e)).1 = 0 then p0 else nI (txS x L (ar9 x L μ 6 (na9 6) 0 0 (txE x L e)).2)) := eσ_21_g
          have eσ_21_h : TX 5600 σ_21 L x := eσ_21_h
          have eσ_21_i : VL σ_21 x L (ar9 x L μ 6 (na9 6) 0 0 (txE x L e)).2 := eσ_21_i
          have eσ_21_j : ∀ a, (464 ≤ a ∧ a ≠ 5009 ∧ a ≠ 4004 ∧ (a < 5005 ∨ 5008 < a) ∨ a = 10) → σ_21 a = σ_2 a := eσ_21_j
          have ht5004_σ_21 : σ_21 5004 = (nI L) := eσ_21_b
          have ht5005_σ_21 : σ_21 5005 = (nI (kr (txK x L (ar9 x L μ 6 (na9 6) 0 0 (txE x L e)).2))) := eσ_21_c
          have ht5006_σ_21 : σ_21 5006 = (nI (txS x L (ar9 x L μ 6 (na9 6) 0 0 (txE x L e)).2)) := eσ_21_d
          have ht5007_σ_21 : σ_21 5007 = (nI (txE x L (ar9 x L μ 6 (na9 6) 0 0 (txE x L e)).2)) := eσ_21_e
          have ht5009_σ_21 : σ_21 5009 = (nI ((ar9 x L μ 6 (na9 6) 0 0 (txE x L e)).1)) := eσ_21_f
          have ht4004_σ_21 : σ_21 4004 = (if (ar9 x L μ 6 (na9 6) 0 0 (txE x L e)).1 = 0 then p0 else nI (txS x L (ar9 x L μ 6 (na9 6) 0 0 (txE x L e)).2)) := eσ_21_g
          have hcTX_σ_21 : TX 5600 σ_21 L x := eσ_21_h
          have hcVL_σ_21 : VL σ_21 x L (ar9 x L μ 6 (na9 6) 0 0 (txE x L e)).2 := eσ_21_i
          have hcFR_σ_21 : ∀ a, (464 ≤ a ∧ a ≠ 5010 ∧ a ≠ 5009 ∧ a ≠ 4004 ∧ (a < 5005 ∨ 5008 < a) ∨ a = 10) → σ_21 a = σ a := by intro a ha; exact Eq.trans (b := σ_2 a) (eσ_21_j a (by first | omega | (simp only [vb] at *; omega))) (hcFR_σ_2 a ha)
          have hcTD_σ_21 : TD σ_21 (b5 || decide (k = 5)) (b6 || decide (k = 6)) := by exact TD.fr hcTD_σ_2 (eσ_21_j _ (by first | omega | (simp only [vb] at *; omega)))
          obtain ⟨μ_22, eμ_22⟩ : ∃ μ_22 : Nat → Int32, μ_22 = pk0 (ar9 x L μ 6 (na9 6) 0 0 (txE x L e)).1 (EF μ 6 (txV x L (txE x L e)) (txV x L (txE x L (txE x L e))) (txV x L (txE x L (txE x L (txE x L e))))) μ := ⟨_, rfl⟩
          have hvσ_21 : vw 0 σ_21 = μ_22 := by rw [eμ_22]; exact eσ_21_a
          refine g_ifB_eq h dX12_aLine_224 (fun c224 => ?_) (fun c224 => ?_)
          ·
            have hq9 : (ar9 x L μ 6 (na9 6) 0 0 (txE x L e)).1 ≠ 0 := of_decide_eq_false c224
            have hR := ln_f (b5 := b5) (b6 := b6) hK1 hW1 hnt hc61 hq9
            refine g_iconst h dX12_aLine_238 (by decide) ?_
            exact g_zret h hQ dX12_aLine_239 (show narrow .boolean (.int (b2i false)) = .int (b2i false) from narrow_b2i _) (congrArg (fun z => some (Value.int (b2i z))) (show (decide ((ln9 x L (0, e, μ, b5, b6)).1 = 0)) = false by rw [hR]; first | rfl | exact decide_eq_true rfl | exact decide_eq_false hq9 | exact decide_eq_false (tff_0 (by decide)) | exact c115 | exact c135 | exact c165 | exact c185 | exact c208 | exact c231 | exact c251 | decide)) (by exact ⟨(by first | (rw [hR]; exact (hvσ_21).trans (by simp only [eμ_22]; exact if_neg hq9)) | (rw [hR]; exact (hvσ_21).trans (by simp only [eμ_22]; exact if_pos hq9)) | (rw [hR]; exact hvσ_21) | fail), (by first | exact ht5004_σ_21 | assumption | fail), (by rw [hR]; exact ht5005_σ_21), (by rw [hR]; exact ht5006_σ_21), (by rw [hR]; exact ht5007_σ_21), (by rw [hR]; exact ht5009_σ_21), (by first | (rw [hR]; exact ht4004_σ_21) | (rw [hR]; exact (ht4004_σ_21).trans (if_neg (by first | exact tff_0 (by decide) | decide)).symm) | fail), (by first | exact hcTX_σ_21 | assumption | fail), (by rw [hR]; exact hcVL_σ_21), (by first | (intro _; rw [hR]; exact hcTD_σ_21) | (intro z; rw [hR] at z; exact absurd z hq9) | (intro z; rw [hR] at z; exact absurd z (by first | exact tff_0 (by decide) | decide)) | fail), (by exact hcFR_σ_21)⟩)
          ·
            have hq9 : (ar9 x L μ 6 (na9 6) 0 0 (txE x L e)).1 = 0 := of_decide_eq_true c224
            have hR := ln_y (b5 := b5) (b6 := b6) hK1 hW1 hnt hc61 hq9
            have hab := (ar9_b (x := x) (L := L) (μ := μ) (k := 6) (na9 6) 0 0 (txE x L e) hb.2.2).2.2
            have ht5009_σ_21 : σ_21 5009 = (nI 0) := by rw [ht5009_σ_21, hq9]
            have ht4004_σ_21 : σ_21 4004 = p0 := by rw [ht4004_σ_21, if_pos hq9]
            refine g_aload_n h dX12_aLine_227 0 rfl ?_
            refine g_cvi (rest := []) h (r_closes hW ((ar9 x L μ 6 (na9 6) 0 0 (txE x L e)).2) L x p0 (by first | omega | assumption | fail) (by first | omega | assumption | fail) (by first | exact ht5004_σ_21 | assumption | fail) (by first | exact ht5005_σ_21 | assumption | fail) (by first | exact ht5006_σ_21 | assumption | fail) (by first | exact ht5007_σ_21 | assumption | fail) (by first | exact ht5009_σ_21 | assumption | fail) (by first | exact ht4004_σ_21 | assumption | fail) (by first | exact hcTX_σ_21 | assumption | fail) (by first | exact hcVL_σ_21 | assumption | fail)) lX12_closes mX12_253 (Nat.lt_of_lt_of_le (by decide) (Nat.le_refl _)) (by decide) sc_0 rfl rfl rfl rfl dX12_aLine_228 (fun σ_23 eσ_23 => ?_)
            obtain ⟨eσ_23_a, eσ_23_b, eσ_23_c, eσ_23_d, eσ_23_e, eσ_23_f, eσ_23_g, eσ_23_h, eσ_23_i⟩ := eσ_23
            have eσ_23_a : σ_23 5004 = (nI L) := eσ_23_a
            have eσ_23_b : σ_23 5005 = (nI (kr (txK x L (cl9 x L ((ar9 x L μ 6 (na9 6) 0 0 (txE x L e)).2))))) := eσ_23_b
            have eσ_23_c : σ_23 5006 = (nI (txS x L (cl9 x L ((ar9 x L μ 6 (na9 6) 0 0 (txE x L e)).2)))) := eσ_23_c
            have eσ_23_d : σ_23 5007 = (nI (txE x L (cl9 x L ((ar9 x L μ 6 (na9 6) 0 0 (txE x L e)).2)))) := eσ_23_d
            have eσ_23_e : σ_23 5009 = (nI (tf9 (txK x L ((ar9 x L μ 6 (na9 6) 0 0 (txE x L e)).2)) 3)) := eσ_23_e
            have eσ_23_f : σ_23 4004 = (if tf9 (txK x L ((ar9 x L μ 6 (na9 6) 0 0 (txE x L e)).2)) 3 = 0 then p0 else nI (txS x L (cl9 x L ((ar9 x L μ 6 (na9 6) 0 0 (txE x L e)).2)))) := eσ_23_f
            have eσ_23_g : TX 5600 σ_23 L x := eσ_23_g
            have eσ_23_h : VL σ_23 x L (cl9 x L ((ar9 x L μ 6 (na9 6) 0 0 (txE x L e)).2)) := eσ_23_h
            have eσ_23_i : ∀ a, (a ≠ 5009 ∧ a ≠ 4004 ∧ (a < 5005 ∨ 5008 < a)) → σ_23 a = σ_21 a := eσ_23_i
            have ht5004_σ_23 : σ_23 5004 = (nI L) := eσ_23_a
            have ht5005_σ_23 : σ_23 5005 = (nI (kr (txK x L (cl9 x L ((ar9 x L μ 6 (na9 6) 0 0 (txE x L e)).2))))) := eσ_23_b
            have ht5006_σ_23 : σ_23 5006 = (nI (txS x L (cl9 x L ((ar9 x L μ 6 (na9 6) 0 0 (txE x L e)).2)))) := eσ_23_c
            have ht5007_σ_23 : σ_23 5007 = (nI (txE x L (cl9 x L ((ar9 x L μ 6 (na9 6) 0 0 (txE x L e)).2)))) := eσ_23_d
            have ht5009_σ_23 : σ_23 5009 = (nI (tf9 (txK x L ((ar9 x L μ 6 (na9 6) 0 0 (txE x L e)).2)) 3)) := eσ_23_e
            have ht4004_σ_23 : σ_23 4004 = (if tf9 (txK x L ((ar9 x L μ 6 (na9 6) 0 0 (txE x L e)).2)) 3 = 0 then p0 else nI (txS x L (cl9 x L ((ar9 x L μ 6 (na9 6) 0 0 (txE x L e)).2)))) := eσ_23_f
            have hcTX_σ_23 : TX 5600 σ_23 L x := eσ_23_g
            have hcVL_σ_23 : VL σ_23 x L (cl9 x L ((ar9 x L μ 6 (na9 6) 0 0 (txE x L e)).2)) := eσ_23_h
            have hcFR_σ_23 : ∀ a, (464 ≤ a ∧ a ≠ 5010 ∧ a ≠ 5009 ∧ a ≠ 4004 ∧ (a < 5005 ∨ 5008 < a) ∨ a = 10) → σ_23 a = σ a := by intro a ha; exact Eq.trans (b := σ_21 a) (eσ_23_i a (by first | omega | (simp only [vb] at *; omega))) (hcFR_σ_21 a ha)
            have hcTD_σ_23 : TD σ_23 (b5 || decide (k = 5)) (b6 || decide (k = 6)) := by exact TD.fr hcTD_σ_21 (eσ_23_i _ (by first | omega | (simp only [vb] at *; omega)))
            have hvσ_23 : vw 0 σ_23 = μ_22 := by rw [vw_fr (σ := σ_21) (fun j _ _ => eσ_23_i _ (by first | omega | (simp only [vb] at *; omega)))]; first | exact hvσ_21 | assumption
            refine g_ifB_eq h dX12_aLine_231 (fun c231 => ?_) (fun c231 => ?_)
            ·
              refine g_iconst h dX12_aLine_238 (by decide) ?_
              exact g_zret h hQ dX12_aLine_239 (show narrow .boolean (.int (b2i false)) = .int (b2i false) from narrow_b2i _) (congrArg (fun z => some (Value.int (b2i z))) (show (decide ((ln9 x L (0, e, μ, b5, b6)).1 = 0)) = false by rw [hR]; first | rfl | exact decide_eq_true rfl | exact decide_eq_false hq9 | exact decide_eq_false (tff_0 (by decide)) | exact c115 | exact c135 | exact c165 | exact c185 | exact c208 | exact c231 | exact c251 | decide)) (by exact ⟨(by first | (rw [hR]; exact (hvσ_23).trans (by simp only [eμ_22]; exact if_neg hq9)) | (rw [hR]; exact (hvσ_23).trans (by simp only [eμ_22]; exact if_pos hq9)) | (rw [hR]; exact hvσ_23) | fail), (by first | exact ht5004_σ_23 | assumption | fail), (by rw [hR]; exact ht5005_σ_23), (by rw [hR]; exact ht5006_σ_23), (by rw [hR]; exact ht5007_σ_23), (by rw [hR]; exact ht5009_σ_23), (by first | (rw [hR]; exact ht4004_σ_23) | (rw [hR]; exact (ht4004_σ_23).trans (if_neg (by first | exact tff_0 (by decide) | decide)).symm) | fail), (by first | exact hcTX_σ_23 | assumption | fail), (by rw [hR]; exact hcVL_σ_23), (by first | (intro _; rw [hR]; exact hcTD_σ_23) | (intro z; rw [hR] at z; exact absurd z hq9) | (intro z; rw [hR] at z; exact absurd z (by first | exact tff_0 (by decide) | decide)) | fail), (by exact hcFR_σ_23)⟩)
            ·
              refine g_iconst h dX12_aLine_234 (by decide) ?_
              refine g_goto h dX12_aLine_235 ?_
              exact g_zret h hQ dX12_aLine_239 (show narrow .boolean (.int (b2i true)) = .int (b2i true) from narrow_b2i _) (congrArg (fun z => some (Value.int (b2i z))) (show (decide ((ln9 x L (0, e, μ, b5, b6)).1 = 0)) = true by rw [hR]; first | rfl | exact decide_eq_true rfl | exact decide_eq_false hq9 | exact decide_eq_false (tff_0 (by decide)) | exact c115 | exact c135 | exact c165 | exact c185 | exact c208 | exact c231 | exact c251 | decide)) (by exact ⟨(by first | (rw [hR]; exact (hvσ_23).trans (by simp only [eμ_22]; exact if_neg hq9)) | (rw [hR]; exact (hvσ_23).trans (by simp only [eμ_22]; exact if_pos hq9)) | (rw [hR]; exact hvσ_23) | fail), (by first | exact ht5004_σ_23 | assumption | fail), (by rw [hR]; exact ht5005_σ_23), (by rw [hR]; exact ht5006_σ_23), (by rw [hR]; exact ht5007_σ_23), (by rw [hR]; exact ht5009_σ_23), (by first | (rw [hR]; exact ht4004_σ_23) | (rw [hR]; exact (ht4004_σ_23).trans (if_neg (by first | exact tff_0 (by decide) | decide)).symm) | fail), (by first | exact hcTX_σ_23 | assumption | fail), (by rw [hR]; exact hcVL_σ_23), (by first | (intro _; rw [hR]; exact hcTD_σ_23) | (intro z; rw [hR] at z; exact absurd z hq9) | (intro z; rw [hR] at z; exact absurd z (by first | exact tff_0 (by decide) | decide)) | fail), (by exact hcFR_σ_23)⟩)
        ·
          refine g_tswOut (tgt := 240) h dX12_aLine_61 (by rw [hc61]; decide) (by decide) ?_
          refine g_aload_n h dX12_aLine_240 0 rfl ?_
          refine g_cvi (rest := []) h (r_aJam hW (txE x L e) L x p0 μ (by first | omega | assumption | fail) (by first | omega | assumption | fail) (by first | exact hvσ_2 | assumption | fail) (by assumption) (by first | exact ht5004_σ_2 | assumption | fail) (by first | exact ht5005_σ_2 | assumption | fail) (by first | exact ht5006_σ_2 | assumption | fail) (by first | exact ht5007_σ_2 | assumption | fail) (by first | exact ht5009_σ_2 | assumption | fail) (by first | exact ht4004_σ_2 | assumption | fail) (by first | exact hcTX_σ_2 | assumption | fail) (by first | exact hcVL_σ_2 | assumption | fail)) lX12_aJam mX12_269 (Nat.lt_of_lt_of_le (by decide) (Nat.le_refl _)) (by decide) sc_0 rfl rfl rfl rfl dX12_aLine_241 (fun σ_24 eσ_24 => ?_)
          obtain ⟨eσ_24_a, eσ_24_b, eσ_24_c, eσ_24_d, eσ_24_e, eσ_24_f, eσ_24_g, eσ_24_h, eσ_24_i, eσ_24_j⟩ := eσ_24
          have eσ_24_a : vw 0 σ_24 = pk0 (ar9 x L μ 7 (na9 7) 0 0 (txE x L e)).1 (EF μ 7 (txV x L (txE x L e)) (txV x L (txE x L (txE x L e))) (txV x L (txE x L (txE x L (txE x L e))))) μ := eσ_24_a
          have eσ_24_b : σ_24 5004 = (nI L) := eσ_24_b
          have eσ_24_c : σ_24 5005 = (nI (kr (txK x L (ar9 x L μ 7 (na9 7) 0 0 (txE x L e)).2))) := eσ_24_c
          have eσ_24_d : σ_24 5006 = (nI (txS x L (ar9 x L μ 7 (na9 7) 0 0 (txE x L e)).2)) := eσ_24_d
          have eσ_24_e : σ_24 5007 = (nI (txE x L (ar9 x L μ 7 (na9 7) 0 0 (txE x L e)).2)) := eσ_24_e
          have eσ_24_f : σ_24 5009 = (nI ((ar9 x L μ 7 (na9 7) 0 0 (txE x L e)).1)) := eσ_24_f
          have eσ_24_g : σ_24 4004 = (if (ar9 x L μ 7 (na9 7) 0 0 (txE x L e)).1 = 0 then p0 else nI (txS x L (ar9 x L μ 7 (na9 7) 0 0 (txE x L e)).2)) := eσ_24_g
          have eσ_24_h : TX 5600 σ_24 L x := eσ_24_h
          have eσ_24_i : VL σ_24 x L (ar9 x L μ 7 (na9 7) 0 0 (txE x L e)).2 := eσ_24_i
          have eσ_24_j : ∀ a, (464 ≤ a ∧ a ≠ 5009 ∧ a ≠ 4004 ∧ (a < 5005 ∨ 5008 < a) ∨ a = 10) → σ_24 a = σ_2 a := eσ_24_j
          have ht5004_σ_24 : σ_24 5004 = (nI L) := eσ_24_b
          have ht5005_σ_24 : σ_24 5005 = (nI (kr (txK x L (ar9 x L μ 7 (na9 7) 0 0 (txE x L e)).2))) := eσ_24_c
          have ht5006_σ_24 : σ_24 5006 = (nI (txS x L (ar9 x L μ 7 (na9 7) 0 0 (txE x L e)).2)) := eσ_24_d
          have ht5007_σ_24 : σ_24 5007 = (nI (txE x L (ar9 x L μ 7 (na9 7) 0 0 (txE x L e)).2)) := eσ_24_e
          have ht5009_σ_24 : σ_24 5009 = (nI ((ar9 x L μ 7 (na9 7) 0 0 (txE x L e)).1)) := eσ_24_f
          have ht4004_σ_24 : σ_24 4004 = (if (ar9 x L μ 7 (na9 7) 0 0 (txE x L e)).1 = 0 then p0 else nI (txS x L (ar9 x L μ 7 (na9 7) 0 0 (txE x L e)).2)) := eσ_24_g
          have hcTX_σ_24 : TX 5600 σ_24 L x := eσ_24_h
          have hcVL_σ_24 : VL σ_24 x L (ar9 x L μ 7 (na9 7) 0 0 (txE x L e)).2 := eσ_24_i
          have hcFR_σ_24 : ∀ a, (464 ≤ a ∧ a ≠ 5010 ∧ a ≠ 5009 ∧ a ≠ 4004 ∧ (a < 5005 ∨ 5008 < a) ∨ a = 10) → σ_24 a = σ a := by intro a ha; exact Eq.trans (b := σ_2 a) (eσ_24_j a (by first | omega | (simp only [vb] at *; omega))) (hcFR_σ_2 a ha)
          have hcTD_σ_24 : TD σ_24 (b5 || decide (k = 5)) (b6 || decide (k = 6)) := by exact TD.fr hcTD_σ_2 (eσ_24_j _ (by first | omega | (simp only [vb] at *; omega)))
          obtain ⟨μ_25, eμ_25⟩ : ∃ μ_25 : Nat → Int32, μ_25 = pk0 (ar9 x L μ 7 (na9 7) 0 0 (txE x L e)).1 (EF μ 7 (txV x L (txE x L e)) (txV x L (txE x L (txE x L e))) (txV x L (txE x L (txE x L (txE x L e))))) μ := ⟨_, rfl⟩
          have hvσ_24 : vw 0 σ_24 = μ_25 := by rw [eμ_25]; exact eσ_24_a
          refine g_ifB_eq h dX12_aLine_244 (fun c244 => ?_) (fun c244 => ?_)
          ·
            have hq9 : (ar9 x L μ 7 (na9 7) 0 0 (txE x L e)).1 ≠ 0 := of_decide_eq_false c244
            have hR := ln_f (b5 := b5) (b6 := b6) hK1 hW1 hnt hc61 hq9
            refine g_iconst h dX12_aLine_258 (by decide) ?_
            exact g_zret h hQ dX12_aLine_259 (show narrow .boolean (.int (b2i false)) = .int (b2i false) from narrow_b2i _) (congrArg (fun z => some (Value.int (b2i z))) (show (decide ((ln9 x L (0, e, μ, b5, b6)).1 = 0)) = false by rw [hR]; first | rfl | exact decide_eq_true rfl | exact decide_eq_false hq9 | exact decide_eq_false (tff_0 (by decide)) | exact c115 | exact c135 | exact c165 | exact c185 | exact c208 | exact c231 | exact c251 | decide)) (by exact ⟨(by first | (rw [hR]; exact (hvσ_24).trans (by simp only [eμ_25]; exact if_neg hq9)) | (rw [hR]; exact (hvσ_24).trans (by simp only [eμ_25]; exact if_pos hq9)) | (rw [hR]; exact hvσ_24) | fail), (by first | exact ht5004_σ_24 | assumption | fail), (by rw [hR]; exact ht5005_σ_24), (by rw [hR]; exact ht5006_σ_24), (by rw [hR]; exact ht5007_σ_24), (by rw [hR]; exact ht5009_σ_24), (by first | (rw [hR]; exact ht4004_σ_24) | (rw [hR]; exact (ht4004_σ_24).trans (if_neg (by first | exact tff_0 (by decide) | decide)).symm) | fail), (by first | exact hcTX_σ_24 | assumption | fail), (by rw [hR]; exact hcVL_σ_24), (by first | (intro _; rw [hR]; exact hcTD_σ_24) | (intro z; rw [hR] at z; exact absurd z hq9) | (intro z; rw [hR] at z; exact absurd z (by first | exact tff_0 (by decide) | decide)) | fail), (by exact hcFR_σ_24)⟩)
          ·
            have hq9 : (ar9 x L μ 7 (na9 7) 0 0 (txE x L e)).1 = 0 := of_decide_eq_true c244
            have hR := ln_y (b5 := b5) (b6 := b6) hK1 hW1 hnt hc61 hq9
            have hab := (ar9_b (x := x) (L := L) (μ := μ) (k := 7) (na9 7) 0 0 (txE x L e) hb.2.2).2.2
            have ht5009_σ_24 : σ_24 5009 = (nI 0) := by rw [ht5009_σ_24, hq9]
            have ht4004_σ_24 : σ_24 4004 = p0 := by rw [ht4004_σ_24, if_pos hq9]
            refine g_aload_n h dX12_aLine_247 0 rfl ?_
            refine g_cvi (rest := []) h (r_closes hW ((ar9 x L μ 7 (na9 7) 0 0 (txE x L e)).2) L x p0 (by first | omega | assumption | fail) (by first | omega | assumption | fail) (by first | exact ht5004_σ_24 | assumption | fail) (by first | exact ht5005_σ_24 | assumption | fail) (by first | exact ht5006_σ_24 | assumption | fail) (by first | exact ht5007_σ_24 | assumption | fail) (by first | exact ht5009_σ_24 | assumption | fail) (by first | exact ht4004_σ_24 | assumption | fail) (by first | exact hcTX_σ_24 | assumption | fail) (by first | exact hcVL_σ_24 | assumption | fail)) lX12_closes mX12_253 (Nat.lt_of_lt_of_le (by decide) (Nat.le_refl _)) (by decide) sc_0 rfl rfl rfl rfl dX12_aLine_248 (fun σ_26 eσ_26 => ?_)
            obtain ⟨eσ_26_a, eσ_26_b, eσ_26_c, eσ_26_d, eσ_26_e, eσ_26_f, eσ_26_g, eσ_26_h, eσ_26_i⟩ := eσ_26
            have eσ_26_a : σ_26 5004 = (nI L) := eσ_26_a
            have eσ_26_b : σ_26 5005 = (nI (kr (txK x L (cl9 x L ((ar9 x L μ 7 (na9 7) 0 0 (txE x L e)).2))))) := eσ_26_b
            have eσ_26_c : σ_26 5006 = (nI (txS x L (cl9 x L ((ar9 x L μ 7 (na9 7) 0 0 (txE x L e)).2)))) := eσ_26_c
            have eσ_26_d : σ_26 5007 = (nI (txE x L (cl9 x L ((ar9 x L μ 7 (na9 7) 0 0 (txE x L e)).2)))) := eσ_26_d
            have eσ_26_e : σ_26 5009 = (nI (tf9 (txK x L ((ar9 x L μ 7 (na9 7) 0 0 (txE x L e)).2)) 3)) := eσ_26_e
            have eσ_26_f : σ_26 4004 = (if tf9 (txK x L ((ar9 x L μ 7 (na9 7) 0 0 (txE x L e)).2)) 3 = 0 then p0 else nI (txS x L (cl9 x L ((ar9 x L μ 7 (na9 7) 0 0 (txE x L e)).2)))) := eσ_26_f
            have eσ_26_g : TX 5600 σ_26 L x := eσ_26_g
            have eσ_26_h : VL σ_26 x L (cl9 x L ((ar9 x L μ 7 (na9 7) 0 0 (txE x L e)).2)) := eσ_26_h
            have eσ_26_i : ∀ a, (a ≠ 5009 ∧ a ≠ 4004 ∧ (a < 5005 ∨ 5008 < a)) → σ_26 a = σ_24 a := eσ_26_i
            have ht5004_σ_26 : σ_26 5004 = (nI L) := eσ_26_a
            have ht5005_σ_26 : σ_26 5005 = (nI (kr (txK x L (cl9 x L ((ar9 x L μ 7 (na9 7) 0 0 (txE x L e)).2))))) := eσ_26_b
            have ht5006_σ_26 : σ_26 5006 = (nI (txS x L (cl9 x L ((ar9 x L μ 7 (na9 7) 0 0 (txE x L e)).2)))) := eσ_26_c
            have ht5007_σ_26 : σ_26 5007 = (nI (txE x L (cl9 x L ((ar9 x L μ 7 (na9 7) 0 0 (txE x L e)).2)))) := eσ_26_d
            have ht5009_σ_26 : σ_26 5009 = (nI (tf9 (txK x L ((ar9 x L μ 7 (na9 7) 0 0 (txE x L e)).2)) 3)) := eσ_26_e
            have ht4004_σ_26 : σ_26 4004 = (if tf9 (txK x L ((ar9 x L μ 7 (na9 7) 0 0 (txE x L e)).2)) 3 = 0 then p0 else nI (txS x L (cl9 x L ((ar9 x L μ 7 (na9 7) 0 0 (txE x L e)).2)))) := eσ_26_f
            have hcTX_σ_26 : TX 5600 σ_26 L x := eσ_26_g
            have hcVL_σ_26 : VL σ_26 x L (cl9 x L ((ar9 x L μ 7 (na9 7) 0 0 (txE x L e)).2)) := eσ_26_h
            have hcFR_σ_26 : ∀ a, (464 ≤ a ∧ a ≠ 5010 ∧ a ≠ 5009 ∧ a ≠ 4004 ∧ (a < 5005 ∨ 5008 < a) ∨ a = 10) → σ_26 a = σ a := by intro a ha; exact Eq.trans (b := σ_24 a) (eσ_26_i a (by first | omega | (simp only [vb] at *; omega))) (hcFR_σ_24 a ha)
            have hcTD_σ_26 : TD σ_26 (b5 || decide (k = 5)) (b6 || decide (k = 6)) := by exact TD.fr hcTD_σ_24 (eσ_26_i _ (by first | omega | (simp only [vb] at *; omega)))
            have hvσ_26 : vw 0 σ_26 = μ_25 := by rw [vw_fr (σ := σ_24) (fun j _ _ => eσ_26_i _ (by first | omega | (simp only [vb] at *; omega)))]; first | exact hvσ_24 | assumption
            refine g_ifB_eq h dX12_aLine_251 (fun c251 => ?_) (fun c251 => ?_)
            ·
              refine g_iconst h dX12_aLine_258 (by decide) ?_
              exact g_zret h hQ dX12_aLine_259 (show narrow .boolean (.int (b2i false)) = .int (b2i false) from narrow_b2i _) (congrArg (fun z => some (Value.int (b2i z))) (show (decide ((ln9 x L (0, e, μ, b5, b6)).1 = 0)) = false by rw [hR]; first | rfl | exact decide_eq_true rfl | exact decide_eq_false hq9 | exact decide_eq_false (tff_0 (by decide)) | exact c115 | exact c135 | exact c165 | exact c185 | exact c208 | exact c231 | exact c251 | decide)) (by exact ⟨(by first | (rw [hR]; exact (hvσ_26).trans (by simp only [eμ_25]; exact if_neg hq9)) | (rw [hR]; exact (hvσ_26).trans (by simp only [eμ_25]; exact if_pos hq9)) | (rw [hR]; exact hvσ_26) | fail), (by first | exact ht5004_σ_26 | assumption | fail), (by rw [hR]; exact ht5005_σ_26), (by rw [hR]; exact ht5006_σ_26), (by rw [hR]; exact ht5007_σ_26), (by rw [hR]; exact ht5009_σ_26), (by first | (rw [hR]; exact ht4004_σ_26) | (rw [hR]; exact (ht4004_σ_26).trans (if_neg (by first | exact tff_0 (by decide) | decide)).symm) | fail), (by first | exact hcTX_σ_26 | assumption | fail), (by rw [hR]; exact hcVL_σ_26), (by first | (intro _; rw [hR]; exact hcTD_σ_26) | (intro z; rw [hR] at z; exact absurd z hq9) | (intro z; rw [hR] at z; exact absurd z (by first | exact tff_0 (by decide) | decide)) | fail), (by exact hcFR_σ_26)⟩)
            ·
              refine g_iconst h dX12_aLine_254 (by decide) ?_
              refine g_goto h dX12_aLine_255 ?_
              exact g_zret h hQ dX12_aLine_259 (show narrow .boolean (.int (b2i true)) = .int (b2i true) from narrow_b2i _) (congrArg (fun z => some (Value.int (b2i z))) (show (decide ((ln9 x L (0, e, μ, b5, b6)).1 = 0)) = true by rw [hR]; first | rfl | exact decide_eq_true rfl | exact decide_eq_false hq9 | exact decide_eq_false (tff_0 (by decide)) | exact c115 | exact c135 | exact c165 | exact c185 | exact c208 | exact c231 | exact c251 | decide)) (by exact ⟨(by first | (rw [hR]; exact (hvσ_26).trans (by simp only [eμ_25]; exact if_neg hq9)) | (rw [hR]; exact (hvσ_26).trans (by simp only [eμ_25]; exact if_pos hq9)) | (rw [hR]; exact hvσ_26) | fail), (by first | exact ht5004_σ_26 | assumption | fail), (by rw [hR]; exact ht5005_σ_26), (by rw [hR]; exact ht5006_σ_26), (by rw [hR]; exact ht5007_σ_26), (by rw [hR]; exact ht5009_σ_26), (by first | (rw [hR]; exact ht4004_σ_26) | (rw [hR]; exact (ht4004_σ_26).trans (if_neg (by first | exact tff_0 (by decide) | decide)).symm) | fail), (by first | exact hcTX_σ_26 | assumption | fail), (by rw [hR]; exact hcVL_σ_26), (by first | (intro _; rw [hR]; exact hcTD_σ_26) | (intro z; rw [hR] at z; exact absurd z hq9) | (intro z; rw [hR] at z; exact absurd z (by first | exact tff_0 (by decide) | decide)) | fail), (by exact hcFR_σ_26)⟩)
      ·
        have hR : (ln9 x L (0, e, μ, b5, b6)) = (5, e, μ, b5, b6) := by first | exact ln9_k2 (s := (0, e, μ, b5, b6)) hK1 hW1 (td_y hcTD_σ (Or.inl c18) c35) | exact ln9_k2 (s := (0, e, μ, b5, b6)) hK1 hW1 (td_y hcTD_σ (Or.inr c24) c35)
        refine g_aload_n h dX12_aLine_38 0 rfl ?_
        refine g_iconst h dX12_aLine_39 (by decide) ?_
        refine g_cvi (rest := []) h (r_fails hW 5 e L x (by omega) (by first | exact ht5005_σ | assumption | fail) (by first | exact ht5006_σ | assumption | fail) (by first | exact ht5009_σ | assumption | fail)) lX12_fails mX12_226 (Nat.lt_of_lt_of_le (by decide) (Nat.le_refl _)) (by decide) sc_0 rfl rfl rfl rfl dX12_aLine_40 (fun σ_27 eσ_27 => ?_)
        obtain ⟨eσ_27_a, eσ_27_b, eσ_27_c⟩ := eσ_27
        have eσ_27_a : σ_27 5009 = (nI (tff (txK x L e) 5)) := eσ_27_a
        have eσ_27_b : σ_27 4004 = (nI (txS x L e)) := eσ_27_b
        have eσ_27_c : ∀ a, (a ≠ 5009 ∧ a ≠ 4004) → σ_27 a = σ a := eσ_27_c
        have ht5004_σ_27 : σ_27 5004 = (nI L) := by rw [eσ_27_c _ (by first | omega | (simp only [vb] at *; omega))]; first | exact ht5004_σ | assumption
        have ht5005_σ_27 : σ_27 5005 = (nI (kr (txK x L e))) := by rw [eσ_27_c _ (by first | omega | (simp only [vb] at *; omega))]; first | exact ht5005_σ | assumption
        have ht5006_σ_27 : σ_27 5006 = (nI (txS x L e)) := by rw [eσ_27_c _ (by first | omega | (simp only [vb] at *; omega))]; first | exact ht5006_σ | assumption
        have ht5007_σ_27 : σ_27 5007 = (nI (txE x L e)) := by rw [eσ_27_c _ (by first | omega | (simp only [vb] at *; omega))]; first | exact ht5007_σ | assumption
        have ht5009_σ_27 : σ_27 5009 = (nI (tff (txK x L e) 5)) := eσ_27_a
        have ht4004_σ_27 : σ_27 4004 = (nI (txS x L e)) := eσ_27_b
        have hcTX_σ_27 : TX 5600 σ_27 L x := by exact TX.fr hcTX_σ (fun a ha hb => eσ_27_c a (by first | omega | (simp only [vb] at *; omega)))
        have hcVL_σ_27 : VL σ_27 x L e := by exact VL.fr hcVL_σ (eσ_27_c _ (by first | omega | (simp only [vb] at *; omega)))
        have hcTD_σ_27 : TD σ_27 b5 b6 := by exact TD.fr hcTD_σ (eσ_27_c _ (by first | omega | (simp only [vb] at *; omega)))
        have hcFR_σ_27 : ∀ a, (464 ≤ a ∧ a ≠ 5010 ∧ a ≠ 5009 ∧ a ≠ 4004 ∧ (a < 5005 ∨ 5008 < a) ∨ a = 10) → σ_27 a = σ a := by intro a ha; exact Eq.trans (b := σ a) (eσ_27_c a (by first | omega | (simp only [vb] at *; omega))) (hcFR_σ a ha)
        have hvσ_27 : vw 0 σ_27 = μ := by rw [vw_fr (σ := σ) (fun j _ _ => eσ_27_c _ (by first | omega | (simp only [vb] at *; omega)))]; first | exact hv | assumption
        refine g_top (y := nI 0) rfl ?_
        have ht5009_σ_27 : σ_27 5009 = (nI 5) := by rw [ht5009_σ_27, hK1]; rfl
        exact g_zret h hQ dX12_aLine_43 (show narrow .boolean (.int (b2i false)) = .int (b2i false) from narrow_b2i _) (congrArg (fun z => some (Value.int (b2i z))) (show (decide ((ln9 x L (0, e, μ, b5, b6)).1 = 0)) = false by rw [hR]; first | rfl | exact decide_eq_true rfl | exact decide_eq_false hq9 | exact decide_eq_false (tff_0 (by decide)) | exact c115 | exact c135 | exact c165 | exact c185 | exact c208 | exact c231 | exact c251 | decide)) (by exact ⟨(by first | (rw [hR]; exact (hvσ_27).trans (by simp only [Nat.add_zero]; exact if_neg hq9)) | (rw [hR]; exact (hvσ_27).trans (by simp only [Nat.add_zero]; exact if_pos hq9)) | (rw [hR]; exact hvσ_27) | fail), (by first | exact ht5004_σ_27 | assumption | fail), (by rw [hR]; exact ht5005_σ_27), (by rw [hR]; exact ht5006_σ_27), (by rw [hR]; exact ht5007_σ_27), (by rw [hR]; exact ht5009_σ_27), (by first | (rw [hR]; exact ht4004_σ_27) | (rw [hR]; exact (ht4004_σ_27).trans (if_neg (by first | exact tff_0 (by decide) | decide)).symm) | fail), (by first | exact hcTX_σ_27 | assumption | fail), (by rw [hR]; exact hcVL_σ_27), (by first | (intro _; rw [hR]; exact hcTD_σ_27) | (intro z; rw [hR] at z; exact absurd z hq9) | (intro z; rw [hR] at z; exact absurd z (by first | exact tff_0 (by decide) | decide)) | fail), (by exact hcFR_σ_27)⟩)
    ·
      refine g_iload_n h dX12_aLine_21 1 rfl ?_
      refine g_bipush h dX12_aLine_22 (by decide) ?_
      refine g_icmpN_ne h dX12_aLine_24 (by omega) (by omega) (fun c24 => ?_) (fun c24 => ?_)
      ·
        have hnt : ¬ told9 b5 b6 k = true := by first | exact td_n hcTD_σ (Or.inl c18) c35 | exact td_n hcTD_σ (Or.inr c24) c35 | exact td_n2 c18 c24
        refine g_aload_n h dX12_aLine_44 0 rfl ?_
        refine g_dup h dX12_aLine_45 rfl ?_
        refine g_geti h dX12_aLine_46 gX12_247 sc_0 rfl ?_
        refine g_iconst h dX12_aLine_49 (by decide) ?_
        refine g_iload_n h dX12_aLine_50 1 rfl ?_
        refine g_ishl h dX12_aLine_51  ?_
        refine g_top (y := bt1 k) rfl ?_
        refine g_ior h dX12_aLine_52  ?_
        refine g_puti h dX12_aLine_53 pX12_247 sc_0 rfl ?_
        refine g_nm (fun σt eσt => ?_)
        have eσt : σt = upd σ 5010 ((σ 5010) ||| (bt1 k)) := eσt
        have ht5004_σt : σt 5004 = (nI L) := by rw [eσt, upd_ne (by first | omega | (simp only [vb] at *; omega))]; first | exact ht5004_σ | assumption
        have ht5005_σt : σt 5005 = (nI (kr (txK x L e))) := by rw [eσt, upd_ne (by first | omega | (simp only [vb] at *; omega))]; first | exact ht5005_σ | assumption
        have ht5006_σt : σt 5006 = (nI (txS x L e)) := by rw [eσt, upd_ne (by first | omega | (simp only [vb] at *; omega))]; first | exact ht5006_σ | assumption
        have ht5007_σt : σt 5007 = (nI (txE x L e)) := by rw [eσt, upd_ne (by first | omega | (simp only [vb] at *; omega))]; first | exact ht5007_σ | assumption
        have ht5009_σt : σt 5009 = (nI 0) := by rw [eσt, upd_ne (by first | omega | (simp only [vb] at *; omega))]; first | exact ht5009_σ | assumption
        have ht4004_σt : σt 4004 = p0 := by rw [eσt, upd_ne (by first | omega | (simp only [vb] at *; omega))]; first | exact ht4004_σ | assumption
        have hcTX_σt : TX 5600 σt L x := by rw [eσt]; exact TX.fr hcTX_σ (fun a ha hb => upd_ne (by first | omega | (simp only [vb] at *; omega)))
        have hcVL_σt : VL σt x L e := by rw [eσt]; exact VL.fr hcVL_σ (upd_ne (by first | omega | (simp only [vb] at *; omega)))
        have hcFR_σt : ∀ a, (464 ≤ a ∧ a ≠ 5010 ∧ a ≠ 5009 ∧ a ≠ 4004 ∧ (a < 5005 ∨ 5008 < a) ∨ a = 10) → σt a = σ a := by intro a ha; exact Eq.trans (b := σ a) (by rw [eσt, upd_ne (by first | omega | (simp only [vb] at *; omega))]) (hcFR_σ a ha)
        have hvσt : vw 0 σt = μ := by rw [eσt, vw_out (by omega)]; first | exact hv | assumption
        have hcTD_σt : TD σt (b5 || decide (k = 5)) (b6 || decide (k = 6)) := td_s hcTD_σ hk8 eσt
        refine g_aload_n h dX12_aLine_56 0 rfl ?_
        refine g_cvv (rest := []) h (r_ahead hW (txE x L e) L x (by first | omega | assumption | fail) (by first | omega | assumption | fail) (by first | exact ht5004_σt | assumption | fail) (by first | exact ht5007_σt | assumption | fail) (by first | exact hcTX_σt | assumption | fail)) lX12_ahead mX12_229 (Nat.lt_of_lt_of_le (by decide) (Nat.le_refl _)) (by decide) sc_0 rfl rfl rfl rfl dX12_aLine_57 (fun σ_28 eσ_28 => ?_)
        obtain ⟨eσ_28_a, eσ_28_b, eσ_28_c, eσ_28_d, eσ_28_e, eσ_28_f, eσ_28_g⟩ := eσ_28
        have eσ_28_a : σ_28 5004 = (nI L) := eσ_28_a
        have eσ_28_b : σ_28 5005 = (nI (kr (txK x L (txE x L e)))) := eσ_28_b
        have eσ_28_c : σ_28 5006 = (nI (txS x L (txE x L e))) := eσ_28_c
        have eσ_28_d : σ_28 5007 = (nI (txE x L (txE x L e))) := eσ_28_d
        have eσ_28_e : TX 5600 σ_28 L x := eσ_28_e
        have eσ_28_f : VL σ_28 x L (txE x L e) := eσ_28_f
        have eσ_28_g : ∀ a, (a < 5005 ∨ 5008 < a) → σ_28 a = σt a := eσ_28_g
        have ht5009_σ_28 : σ_28 5009 = (nI 0) := by rw [eσ_28_g _ (by first | omega | (simp only [vb] at *; omega))]; first | exact ht5009_σt | assumption
        have ht4004_σ_28 : σ_28 4004 = p0 := by rw [eσ_28_g _ (by first | omega | (simp only [vb] at *; omega))]; first | exact ht4004_σt | assumption
        have ht5004_σ_28 : σ_28 5004 = (nI L) := eσ_28_a
        have ht5005_σ_28 : σ_28 5005 = (nI (kr (txK x L (txE x L e)))) := eσ_28_b
        have ht5006_σ_28 : σ_28 5006 = (nI (txS x L (txE x L e))) := eσ_28_c
        have ht5007_σ_28 : σ_28 5007 = (nI (txE x L (txE x L e))) := eσ_28_d
        have hcTX_σ_28 : TX 5600 σ_28 L x := eσ_28_e
        have hcVL_σ_28 : VL σ_28 x L (txE x L e) := eσ_28_f
        have hcFR_σ_28 : ∀ a, (464 ≤ a ∧ a ≠ 5010 ∧ a ≠ 5009 ∧ a ≠ 4004 ∧ (a < 5005 ∨ 5008 < a) ∨ a = 10) → σ_28 a = σ a := by intro a ha; exact Eq.trans (b := σt a) (eσ_28_g a (by first | omega | (simp only [vb] at *; omega))) (hcFR_σt a ha)
        have hcTD_σ_28 : TD σ_28 (b5 || decide (k = 5)) (b6 || decide (k = 6)) := by exact TD.fr hcTD_σt (eσ_28_g _ (by first | omega | (simp only [vb] at *; omega)))
        have hvσ_28 : vw 0 σ_28 = μ := by rw [vw_fr (σ := σt) (fun j _ _ => eσ_28_g _ (by first | omega | (simp only [vb] at *; omega)))]; first | exact hvσt | assumption
        refine g_iload_n h dX12_aLine_60 1 rfl ?_
        rcases (show k = 0 ∨ k = 1 ∨ k = 2 ∨ k = 3 ∨ k = 4 ∨ k = 5 ∨ k = 6 ∨ k = 7 by omega) with hc61 | hc61 | hc61 | hc61 | hc61 | hc61 | hc61 | hc61
        ·
          refine g_tsw (off := 43) (tgt := 104) h dX12_aLine_61 (nI 0) (by rw [hc61]) (by decide) (by decide) (by decide +kernel) (by decide) ?_
          refine g_aload_n h dX12_aLine_104 0 rfl ?_
          refine g_cvi (rest := []) h (r_moreNodes hW (txE x L e) L x p0 μ (by first | omega | assumption | fail) (by first | omega | assumption | fail) (by first | exact hvσ_28 | assumption | fail) (by assumption) (by first | exact ht5004_σ_28 | assumption | fail) (by first | exact ht5005_σ_28 | assumption | fail) (by first | exact ht5006_σ_28 | assumption | fail) (by first | exact ht5007_σ_28 | assumption | fail) (by first | exact ht5009_σ_28 | assumption | fail) (by first | exact ht4004_σ_28 | assumption | fail) (by first | exact hcTX_σ_28 | assumption | fail) (by first | exact hcVL_σ_28 | assumption | fail)) lX12_moreNodes mX12_250 (Nat.lt_of_lt_of_le (by decide) (Nat.le_refl _)) (by decide) sc_0 rfl rfl rfl rfl dX12_aLine_105 (fun σ_29 eσ_29 => ?_)
          obtain ⟨eσ_29_a, eσ_29_b, eσ_29_c, eσ_29_d, eσ_29_e, eσ_29_f, eσ_29_g, eσ_29_h, eσ_29_i, eσ_29_j⟩ := eσ_29
          have eσ_29_a : vw 0 σ_29 = pk0 (ar9 x L μ 0 (na9 0) 0 0 (txE x L e)).1 (EF μ 0 (txV x L (txE x L e)) (txV x L (txE x L (txE x L e))) (txV x L (txE x L (txE x L (txE x L e))))) μ := eσ_29_a
          have eσ_29_b : σ_29 5004 = (nI L) := eσ_29_b
          have eσ_29_c : σ_29 5005 = (nI (kr (txK x L (ar9 x L μ 0 (na9 0) 0 0 (txE x L e)).2))) := eσ_29_c
          have eσ_29_d : σ_29 5006 = (nI (txS x L (ar9 x L μ 0 (na9 0) 0 0 (txE x L e)).2)) := eσ_29_d
          have eσ_29_e : σ_29 5007 = (nI (txE x L (ar9 x L μ 0 (na9 0) 0 0 (txE x L e)).2)) := eσ_29_e
          have eσ_29_f : σ_29 5009 = (nI ((ar9 x L μ 0 (na9 0) 0 0 (txE x L e)).1)) := eσ_29_f
          have eσ_29_g : σ_29 4004 = (if (ar9 x L μ 0 (na9 0) 0 0 (txE x L e)).1 = 0 then p0 else nI (txS x L (ar9 x L μ 0 (na9 0) 0 0 (txE x L e)).2)) := eσ_29_g
          have eσ_29_h : TX 5600 σ_29 L x := eσ_29_h
          have eσ_29_i : VL σ_29 x L (ar9 x L μ 0 (na9 0) 0 0 (txE x L e)).2 := eσ_29_i
          have eσ_29_j : ∀ a, (464 ≤ a ∧ a ≠ 5009 ∧ a ≠ 4004 ∧ (a < 5005 ∨ 5008 < a) ∨ a = 10) → σ_29 a = σ_28 a := eσ_29_j
          have ht5004_σ_29 : σ_29 5004 = (nI L) := eσ_29_b
          have ht5005_σ_29 : σ_29 5005 = (nI (kr (txK x L (ar9 x L μ 0 (na9 0) 0 0 (txE x L e)).2))) := eσ_29_c
          have ht5006_σ_29 : σ_29 5006 = (nI (txS x L (ar9 x L μ 0 (na9 0) 0 0 (txE x L e)).2)) := eσ_29_d
          have ht5007_σ_29 : σ_29 5007 = (nI (txE x L (ar9 x L μ 0 (na9 0) 0 0 (txE x L e)).2)) := eσ_29_e
          have ht5009_σ_29 : σ_29 5009 = (nI ((ar9 x L μ 0 (na9 0) 0 0 (txE x L e)).1)) := eσ_29_f
          have ht4004_σ_29 : σ_29 4004 = (if (ar9 x L μ 0 (na9 0) 0 0 (txE x L e)).1 = 0 then p0 else nI (txS x L (ar9 x L μ 0 (na9 0) 0 0 (txE x L e)).2)) := eσ_29_g
          have hcTX_σ_29 : TX 5600 σ_29 L x := eσ_29_h
          have hcVL_σ_29 : VL σ_29 x L (ar9 x L μ 0 (na9 0) 0 0 (txE x L e)).2 := eσ_29_i
          have hcFR_σ_29 : ∀ a, (464 ≤ a ∧ a ≠ 5010 ∧ a ≠ 5009 ∧ a ≠ 4004 ∧ (a < 5005 ∨ 5008 < a) ∨ a = 10) → σ_29 a = σ a := by intro a ha; exact Eq.trans (b := σ_28 a) (eσ_29_j a (by first | omega | (simp only [vb] at *; omega))) (hcFR_σ_28 a ha)
          have hcTD_σ_29 : TD σ_29 (b5 || decide (k = 5)) (b6 || decide (k = 6)) := by exact TD.fr hcTD_σ_28 (eσ_29_j _ (by first | omega | (simp only [vb] at *; omega)))
          obtain ⟨μ_30, eμ_30⟩ : ∃ μ_30 : Nat → Int32, μ_30 = pk0 (ar9 x L μ 0 (na9 0) 0 0 (txE x L e)).1 (EF μ 0 (txV x L (txE x L e)) (txV x L (txE x L (txE x L e))) (txV x L (txE x L (txE x L (txE x L e))))) μ := ⟨_, rfl⟩
          have hvσ_29 : vw 0 σ_29 = μ_30 := by rw [eμ_30]; exact eσ_29_a
          refine g_ifB_eq h dX12_aLine_108 (fun c108 => ?_) (fun c108 => ?_)
          ·
            have hq9 : (ar9 x L μ 0 (na9 0) 0 0 (txE x L e)).1 ≠ 0 := of_decide_eq_false c108
            have hR := ln_f (b5 := b5) (b6 := b6) hK1 hW1 hnt hc61 hq9
            refine g_iconst h dX12_aLine_122 (by decide) ?_
            exact g_zret h hQ dX12_aLine_123 (show narrow .boolean (.int (b2i false)) = .int (b2i false) from narrow_b2i _) (congrArg (fun z => some (Value.int (b2i z))) (show (decide ((ln9 x L (0, e, μ, b5, b6)).1 = 0)) = false by rw [hR]; first | rfl | exact decide_eq_true rfl | exact decide_eq_false hq9 | exact decide_eq_false (tff_0 (by decide)) | exact c115 | exact c135 | exact c165 | exact c185 | exact c208 | exact c231 | exact c251 | decide)) (by exact ⟨(by first | (rw [hR]; exact (hvσ_29).trans (by simp only [eμ_30]; exact if_neg hq9)) | (rw [hR]; exact (hvσ_29).trans (by simp only [eμ_30]; exact if_pos hq9)) | (rw [hR]; exact hvσ_29) | fail), (by first | exact ht5004_σ_29 | assumption | fail), (by rw [hR]; exact ht5005_σ_29), (by rw [hR]; exact ht5006_σ_29), (by rw [hR]; exact ht5007_σ_29), (by rw [hR]; exact ht5009_σ_29), (by first | (rw [hR]; exact ht4004_σ_29) | (rw [hR]; exact (ht4004_σ_29).trans (if_neg (by first | exact tff_0 (by decide) | decide)).symm) | fail), (by first | exact hcTX_σ_29 | assumption | fail), (by rw [hR]; exact hcVL_σ_29), (by first | (intro _; rw [hR]; exact hcTD_σ_29) | (intro z; rw [hR] at z; exact absurd z hq9) | (intro z; rw [hR] at z; exact absurd z (by first | exact tff_0 (by decide) | decide)) | fail), (by exact hcFR_σ_29)⟩)
          ·
            have hq9 : (ar9 x L μ 0 (na9 0) 0 0 (txE x L e)).1 = 0 := of_decide_eq_true c108
            have hR := ln_y (b5 := b5) (b6 := b6) hK1 hW1 hnt hc61 hq9
            have hab := (ar9_b (x := x) (L := L) (μ := μ) (k := 0) (na9 0) 0 0 (txE x L e) hb.2.2).2.2
            have ht5009_σ_29 : σ_29 5009 = (nI 0) := by rw [ht5009_σ_29, hq9]
            have ht4004_σ_29 : σ_29 4004 = p0 := by rw [ht4004_σ_29, if_pos hq9]
            refine g_aload_n h dX12_aLine_111 0 rfl ?_
            refine g_cvi (rest := []) h (r_closes hW ((ar9 x L μ 0 (na9 0) 0 0 (txE x L e)).2) L x p0 (by first | omega | assumption | fail) (by first | omega | assumption | fail) (by first | exact ht5004_σ_29 | assumption | fail) (by first | exact ht5005_σ_29 | assumption | fail) (by first | exact ht5006_σ_29 | assumption | fail) (by first | exact ht5007_σ_29 | assumption | fail) (by first | exact ht5009_σ_29 | assumption | fail) (by first | exact ht4004_σ_29 | assumption | fail) (by first | exact hcTX_σ_29 | assumption | fail) (by first | exact hcVL_σ_29 | assumption | fail)) lX12_closes mX12_253 (Nat.lt_of_lt_of_le (by decide) (Nat.le_refl _)) (by decide) sc_0 rfl rfl rfl rfl dX12_aLine_112 (fun σ_31 eσ_31 => ?_)
            obtain ⟨eσ_31_a, eσ_31_b, eσ_31_c, eσ_31_d, eσ_31_e, eσ_31_f, eσ_31_g, eσ_31_h, eσ_31_i⟩ := eσ_31
            have eσ_31_a : σ_31 5004 = (nI L) := eσ_31_a
            have eσ_31_b : σ_31 5005 = (nI (kr (txK x L (cl9 x L ((ar9 x L μ 0 (na9 0) 0 0 (txE x L e)).2))))) := eσ_31_b
            have eσ_31_c : σ_31 5006 = (nI (txS x L (cl9 x L ((ar9 x L μ 0 (na9 0) 0 0 (txE x L e)).2)))) := eσ_31_c
            have eσ_31_d : σ_31 5007 = (nI (txE x L (cl9 x L ((ar9 x L μ 0 (na9 0) 0 0 (txE x L e)).2)))) := eσ_31_d
            have eσ_31_e : σ_31 5009 = (nI (tf9 (txK x L ((ar9 x L μ 0 (na9 0) 0 0 (txE x L e)).2)) 3)) := eσ_31_e
            have eσ_31_f : σ_31 4004 = (if tf9 (txK x L ((ar9 x L μ 0 (na9 0) 0 0 (txE x L e)).2)) 3 = 0 then p0 else nI (txS x L (cl9 x L ((ar9 x L μ 0 (na9 0) 0 0 (txE x L e)).2)))) := eσ_31_f
            have eσ_31_g : TX 5600 σ_31 L x := eσ_31_g
            have eσ_31_h : VL σ_31 x L (cl9 x L ((ar9 x L μ 0 (na9 0) 0 0 (txE x L e)).2)) := eσ_31_h
            have eσ_31_i : ∀ a, (a ≠ 5009 ∧ a ≠ 4004 ∧ (a < 5005 ∨ 5008 < a)) → σ_31 a = σ_29 a := eσ_31_i
            have ht5004_σ_31 : σ_31 5004 = (nI L) := eσ_31_a
            have ht5005_σ_31 : σ_31 5005 = (nI (kr (txK x L (cl9 x L ((ar9 x L μ 0 (na9 0) 0 0 (txE x L e)).2))))) := eσ_31_b
            have ht5006_σ_31 : σ_31 5006 = (nI (txS x L (cl9 x L ((ar9 x L μ 0 (na9 0) 0 0 (txE x L e)).2)))) := eσ_31_c
            have ht5007_σ_31 : σ_31 5007 = (nI (txE x L (cl9 x L ((ar9 x L μ 0 (na9 0) 0 0 (txE x L e)).2)))) := eσ_31_d
            have ht5009_σ_31 : σ_31 5009 = (nI (tf9 (txK x L ((ar9 x L μ 0 (na9 0) 0 0 (txE x L e)).2)) 3)) := eσ_31_e
            have ht4004_σ_31 : σ_31 4004 = (if tf9 (txK x L ((ar9 x L μ 0 (na9 0) 0 0 (txE x L e)).2)) 3 = 0 then p0 else nI (txS x L (cl9 x L ((ar9 x L μ 0 (na9 0) 0 0 (txE x L e)).2)))) := eσ_31_f
            have hcTX_σ_31 : TX 5600 σ_31 L x := eσ_31_g
            have hcVL_σ_31 : VL σ_31 x L (cl9 x L ((ar9 x L μ 0 (na9 0) 0 0 (txE x L e)).2)) := eσ_31_h
            have hcFR_σ_31 : ∀ a, (464 ≤ a ∧ a ≠ 5010 ∧ a ≠ 5009 ∧ a ≠ 4004 ∧ (a < 5005 ∨ 5008 < a) ∨ a = 10) → σ_31 a = σ a := by intro a ha; exact Eq.trans (b := σ_29 a) (eσ_31_i a (by first | omega | (simp only [vb] at *; omega))) (hcFR_σ_29 a ha)
            have hcTD_σ_31 : TD σ_31 (b5 || decide (k = 5)) (b6 || decide (k = 6)) := by exact TD.fr hcTD_σ_29 (eσ_31_i _ (by first | omega | (simp only [vb] at *; omega)))
            have hvσ_31 : vw 0 σ_31 = μ_30 := by rw [vw_fr (σ := σ_29) (fun j _ _ => eσ_31_i _ (by first | omega | (simp only [vb] at *; omega)))]; first | exact hvσ_29 | assumption
            refine g_ifB_eq h dX12_aLine_115 (fun c115 => ?_) (fun c115 => ?_)
            ·
              refine g_iconst h dX12_aLine_122 (by decide) ?_
              exact g_zret h hQ dX12_aLine_123 (show narrow .boolean (.int (b2i false)) = .int (b2i false) from narrow_b2i _) (congrArg (fun z => some (Value.int (b2i z))) (show (decide ((ln9 x L (0, e, μ, b5, b6)).1 = 0)) = false by rw [hR]; first | rfl | exact decide_eq_true rfl | exact decide_eq_false hq9 | exact decide_eq_false (tff_0 (by decide)) | exact c115 | exact c135 | exact c165 | exact c185 | exact c208 | exact c231 | exact c251 | decide)) (by exact ⟨(by first | (rw [hR]; exact (hvσ_31).trans (by simp only [eμ_30]; exact if_neg hq9)) | (rw [hR]; exact (hvσ_31).trans (by simp only [eμ_30]; exact if_pos hq9)) | (rw [hR]; exact hvσ_31) | fail), (by first | exact ht5004_σ_31 | assumption | fail), (by rw [hR]; exact ht5005_σ_31), (by rw [hR]; exact ht5006_σ_31), (by rw [hR]; exact ht5007_σ_31), (by rw [hR]; exact ht5009_σ_31), (by first | (rw [hR]; exact ht4004_σ_31) | (rw [hR]; exact (ht4004_σ_31).trans (if_neg (by first | exact tff_0 (by decide) | decide)).symm) | fail), (by first | exact hcTX_σ_31 | assumption | fail), (by rw [hR]; exact hcVL_σ_31), (by first | (intro _; rw [hR]; exact hcTD_σ_31) | (intro z; rw [hR] at z; exact absurd z hq9) | (intro z; rw [hR] at z; exact absurd z (by first | exact tff_0 (by decide) | decide)) | fail), (by exact hcFR_σ_31)⟩)
            ·
              refine g_iconst h dX12_aLine_118 (by decide) ?_
              refine g_goto h dX12_aLine_119 ?_
              exact g_zret h hQ dX12_aLine_123 (show narrow .boolean (.int (b2i true)) = .int (b2i true) from narrow_b2i _) (congrArg (fun z => some (Value.int (b2i z))) (show (decide ((ln9 x L (0, e, μ, b5, b6)).1 = 0)) = true by rw [hR]; first | rfl | exact decide_eq_true rfl | exact decide_eq_false hq9 | exact decide_eq_false (tff_0 (by decide)) | exact c115 | exact c135 | exact c165 | exact c185 | exact c208 | exact c231 | exact c251 | decide)) (by exact ⟨(by first | (rw [hR]; exact (hvσ_31).trans (by simp only [eμ_30]; exact if_neg hq9)) | (rw [hR]; exact (hvσ_31).trans (by simp only [eμ_30]; exact if_pos hq9)) | (rw [hR]; exact hvσ_31) | fail), (by first | exact ht5004_σ_31 | assumption | fail), (by rw [hR]; exact ht5005_σ_31), (by rw [hR]; exact ht5006_σ_31), (by rw [hR]; exact ht5007_σ_31), (by rw [hR]; exact ht5009_σ_31), (by first | (rw [hR]; exact ht4004_σ_31) | (rw [hR]; exact (ht4004_σ_31).trans (if_neg (by first | exact tff_0 (by decide) | decide)).symm) | fail), (by first | exact hcTX_σ_31 | assumption | fail), (by rw [hR]; exact hcVL_σ_31), (by first | (intro _; rw [hR]; exact hcTD_σ_31) | (intro z; rw [hR] at z; exact absurd z hq9) | (intro z; rw [hR] at z; exact absurd z (by first | exact tff_0 (by decide) | decide)) | fail), (by exact hcFR_σ_31)⟩)
        ·
          refine g_tsw (off := 63) (tgt := 124) h dX12_aLine_61 (nI 1) (by rw [hc61]) (by decide) (by decide) (by decide +kernel) (by decide) ?_
          refine g_aload_n h dX12_aLine_124 0 rfl ?_
          refine g_cvi (rest := []) h (r_aWill hW (txE x L e) L x p0 μ (by first | omega | assumption | fail) (by first | omega | assumption | fail) (by first | exact hvσ_28 | assumption | fail) (by assumption) (by first | exact ht5004_σ_28 | assumption | fail) (by first | exact ht5005_σ_28 | assumption | fail) (by first | exact ht5006_σ_28 | assumption | fail) (by first | exact ht5007_σ_28 | assumption | fail) (by first | exact ht5009_σ_28 | assumption | fail) (by first | exact ht4004_σ_28 | assumption | fail) (by first | exact hcTX_σ_28 | assumption | fail) (by first | exact hcVL_σ_28 | assumption | fail)) lX12_aWill mX12_256 (Nat.lt_of_lt_of_le (by decide) (Nat.le_refl _)) (by decide) sc_0 rfl rfl rfl rfl dX12_aLine_125 (fun σ_32 eσ_32 => ?_)
          obtain ⟨eσ_32_a, eσ_32_b, eσ_32_c, eσ_32_d, eσ_32_e, eσ_32_f, eσ_32_g, eσ_32_h, eσ_32_i, eσ_32_j⟩ := eσ_32
          have eσ_32_a : vw 0 σ_32 = pk0 (ar9 x L μ 1 (na9 1) 0 0 (txE x L e)).1 (EF μ 1 (txV x L (txE x L e)) (txV x L (txE x L (txE x L e))) (txV x L (txE x L (txE x L (txE x L e))))) μ := eσ_32_a
          have eσ_32_b : σ_32 5004 = (nI L) := eσ_32_b
          have eσ_32_c : σ_32 5005 = (nI (kr (txK x L (ar9 x L μ 1 (na9 1) 0 0 (txE x L e)).2))) := eσ_32_c
          have eσ_32_d : σ_32 5006 = (nI (txS x L (ar9 x L μ 1 (na9 1) 0 0 (txE x L e)).2)) := eσ_32_d
          have eσ_32_e : σ_32 5007 = (nI (txE x L (ar9 x L μ 1 (na9 1) 0 0 (txE x L e)).2)) := eσ_32_e
          have eσ_32_f : σ_32 5009 = (nI ((ar9 x L μ 1 (na9 1) 0 0 (txE x L e)).1)) := eσ_32_f
          have eσ_32_g : σ_32 4004 = (if (ar9 x L μ 1 (na9 1) 0 0 (txE x L e)).1 = 0 then p0 else nI (txS x L (ar9 x L μ 1 (na9 1) 0 0 (txE x L e)).2)) := eσ_32_g
          have eσ_32_h : TX 5600 σ_32 L x := eσ_32_h
          have eσ_32_i : VL σ_32 x L (ar9 x L μ 1 (na9 1) 0 0 (txE x L e)).2 := eσ_32_i
          have eσ_32_j : ∀ a, (464 ≤ a ∧ a ≠ 5009 ∧ a ≠ 4004 ∧ (a < 5005 ∨ 5008 < a) ∨ a = 10) → σ_32 a = σ_28 a := eσ_32_j
          have ht5004_σ_32 : σ_32 5004 = (nI L) := eσ_32_b
          have ht5005_σ_32 : σ_32 5005 = (nI (kr (txK x L (ar9 x L μ 1 (na9 1) 0 0 (txE x L e)).2))) := eσ_32_c
          have ht5006_σ_32 : σ_32 5006 = (nI (txS x L (ar9 x L μ 1 (na9 1) 0 0 (txE x L e)).2)) := eσ_32_d
          have ht5007_σ_32 : σ_32 5007 = (nI (txE x L (ar9 x L μ 1 (na9 1) 0 0 (txE x L e)).2)) := eσ_32_e
          have ht5009_σ_32 : σ_32 5009 = (nI ((ar9 x L μ 1 (na9 1) 0 0 (txE x L e)).1)) := eσ_32_f
          have ht4004_σ_32 : σ_32 4004 = (if (ar9 x L μ 1 (na9 1) 0 0 (txE x L e)).1 = 0 then p0 else nI (txS x L (ar9 x L μ 1 (na9 1) 0 0 (txE x L e)).2)) := eσ_32_g
          have hcTX_σ_32 : TX 5600 σ_32 L x := eσ_32_h
          have hcVL_σ_32 : VL σ_32 x L (ar9 x L μ 1 (na9 1) 0 0 (txE x L e)).2 := eσ_32_i
          have hcFR_σ_32 : ∀ a, (464 ≤ a ∧ a ≠ 5010 ∧ a ≠ 5009 ∧ a ≠ 4004 ∧ (a < 5005 ∨ 5008 < a) ∨ a = 10) → σ_32 a = σ a := by intro a ha; exact Eq.trans (b := σ_28 a) (eσ_32_j a (by first | omega | (simp only [vb] at *; omega))) (hcFR_σ_28 a ha)
          have hcTD_σ_32 : TD σ_32 (b5 || decide (k = 5)) (b6 || decide (k = 6)) := by exact TD.fr hcTD_σ_28 (eσ_32_j _ (by first | omega | (simp only [vb] at *; omega)))
          obtain ⟨μ_33, eμ_33⟩ : ∃ μ_33 : Nat → Int32, μ_33 = pk0 (ar9 x L μ 1 (na9 1) 0 0 (txE x L e)).1 (EF μ 1 (txV x L (txE x L e)) (txV x L (txE x L (txE x L e))) (txV x L (txE x L (txE x L (txE x L e))))) μ := ⟨_, rfl⟩
          have hvσ_32 : vw 0 σ_32 = μ_33 := by rw [eμ_33]; exact eσ_32_a
          refine g_ifB_eq h dX12_aLine_128 (fun c128 => ?_) (fun c128 => ?_)
          ·
            have hq9 : (ar9 x L μ 1 (na9 1) 0 0 (txE x L e)).1 ≠ 0 := of_decide_eq_false c128
            have hR := ln_f (b5 := b5) (b6 := b6) hK1 hW1 hnt hc61 hq9
            refine g_iconst h dX12_aLine_142 (by decide) ?_
            exact g_zret h hQ dX12_aLine_143 (show narrow .boolean (.int (b2i false)) = .int (b2i false) from narrow_b2i _) (congrArg (fun z => some (Value.int (b2i z))) (show (decide ((ln9 x L (0, e, μ, b5, b6)).1 = 0)) = false by rw [hR]; first | rfl | exact decide_eq_true rfl | exact decide_eq_false hq9 | exact decide_eq_false (tff_0 (by decide)) | exact c115 | exact c135 | exact c165 | exact c185 | exact c208 | exact c231 | exact c251 | decide)) (by exact ⟨(by first | (rw [hR]; exact (hvσ_32).trans (by simp only [eμ_33]; exact if_neg hq9)) | (rw [hR]; exact (hvσ_32).trans (by simp only [eμ_33]; exact if_pos hq9)) | (rw [hR]; exact hvσ_32) | fail), (by first | exact ht5004_σ_32 | assumption | fail), (by rw [hR]; exact ht5005_σ_32), (by rw [hR]; exact ht5006_σ_32), (by rw [hR]; exact ht5007_σ_32), (by rw [hR]; exact ht5009_σ_32), (by first | (rw [hR]; exact ht4004_σ_32) | (rw [hR]; exact (ht4004_σ_32).trans (if_neg (by first | exact tff_0 (by decide) | decide)).symm) | fail), (by first | exact hcTX_σ_32 | assumption | fail), (by rw [hR]; exact hcVL_σ_32), (by first | (intro _; rw [hR]; exact hcTD_σ_32) | (intro z; rw [hR] at z; exact absurd z hq9) | (intro z; rw [hR] at z; exact absurd z (by first | exact tff_0 (by decide) | decide)) | fail), (by exact hcFR_σ_32)⟩)
          ·
            have hq9 : (ar9 x L μ 1 (na9 1) 0 0 (txE x L e)).1 = 0 := of_decide_eq_true c128
            have hR := ln_y (b5 := b5) (b6 := b6) hK1 hW1 hnt hc61 hq9
            have hab := (ar9_b (x := x) (L := L) (μ := μ) (k := 1) (na9 1) 0 0 (txE x L e) hb.2.2).2.2
            have ht5009_σ_32 : σ_32 5009 = (nI 0) := by rw [ht5009_σ_32, hq9]
            have ht4004_σ_32 : σ_32 4004 = p0 := by rw [ht4004_σ_32, if_pos hq9]
            refine g_aload_n h dX12_aLine_131 0 rfl ?_
            refine g_cvi (rest := []) h (r_closes hW ((ar9 x L μ 1 (na9 1) 0 0 (txE x L e)).2) L x p0 (by first | omega | assumption | fail) (by first | omega | assumption | fail) (by first | exact ht5004_σ_32 | assumption | fail) (by first | exact ht5005_σ_32 | assumption | fail) (by first | exact ht5006_σ_32 | assumption | fail) (by first | exact ht5007_σ_32 | assumption | fail) (by first | exact ht5009_σ_32 | assumption | fail) (by first | exact ht4004_σ_32 | assumption | fail) (by first | exact hcTX_σ_32 | assumption | fail) (by first | exact hcVL_σ_32 | assumption | fail)) lX12_closes mX12_253 (Nat.lt_of_lt_of_le (by decide) (Nat.le_refl _)) (by decide) sc_0 rfl rfl rfl rfl dX12_aLine_132 (fun σ_34 eσ_34 => ?_)
            obtain ⟨eσ_34_a, eσ_34_b, eσ_34_c, eσ_34_d, eσ_34_e, eσ_34_f, eσ_34_g, eσ_34_h, eσ_34_i⟩ := eσ_34
            have eσ_34_a : σ_34 5004 = (nI L) := eσ_34_a
            have eσ_34_b : σ_34 5005 = (nI (kr (txK x L (cl9 x L ((ar9 x L μ 1 (na9 1) 0 0 (txE x L e)).2))))) := eσ_34_b
            have eσ_34_c : σ_34 5006 = (nI (txS x L (cl9 x L ((ar9 x L μ 1 (na9 1) 0 0 (txE x L e)).2)))) := eσ_34_c
            have eσ_34_d : σ_34 5007 = (nI (txE x L (cl9 x L ((ar9 x L μ 1 (na9 1) 0 0 (txE x L e)).2)))) := eσ_34_d
            have eσ_34_e : σ_34 5009 = (nI (tf9 (txK x L ((ar9 x L μ 1 (na9 1) 0 0 (txE x L e)).2)) 3)) := eσ_34_e
            have eσ_34_f : σ_34 4004 = (if tf9 (txK x L ((ar9 x L μ 1 (na9 1) 0 0 (txE x L e)).2)) 3 = 0 then p0 else nI (txS x L (cl9 x L ((ar9 x L μ 1 (na9 1) 0 0 (txE x L e)).2)))) := eσ_34_f
            have eσ_34_g : TX 5600 σ_34 L x := eσ_34_g
            have eσ_34_h : VL σ_34 x L (cl9 x L ((ar9 x L μ 1 (na9 1) 0 0 (txE x L e)).2)) := eσ_34_h
            have eσ_34_i : ∀ a, (a ≠ 5009 ∧ a ≠ 4004 ∧ (a < 5005 ∨ 5008 < a)) → σ_34 a = σ_32 a := eσ_34_i
            have ht5004_σ_34 : σ_34 5004 = (nI L) := eσ_34_a
            have ht5005_σ_34 : σ_34 5005 = (nI (kr (txK x L (cl9 x L ((ar9 x L μ 1 (na9 1) 0 0 (txE x L e)).2))))) := eσ_34_b
            have ht5006_σ_34 : σ_34 5006 = (nI (txS x L (cl9 x L ((ar9 x L μ 1 (na9 1) 0 0 (txE x L e)).2)))) := eσ_34_c
            have ht5007_σ_34 : σ_34 5007 = (nI (txE x L (cl9 x L ((ar9 x L μ 1 (na9 1) 0 0 (txE x L e)).2)))) := eσ_34_d
            have ht5009_σ_34 : σ_34 5009 = (nI (tf9 (txK x L ((ar9 x L μ 1 (na9 1) 0 0 (txE x L e)).2)) 3)) := eσ_34_e
            have ht4004_σ_34 : σ_34 4004 = (if tf9 (txK x L ((ar9 x L μ 1 (na9 1) 0 0 (txE x L e)).2)) 3 = 0 then p0 else nI (txS x L (cl9 x L ((ar9 x L μ 1 (na9 1) 0 0 (txE x L e)).2)))) := eσ_34_f
            have hcTX_σ_34 : TX 5600 σ_34 L x := eσ_34_g
            have hcVL_σ_34 : VL σ_34 x L (cl9 x L ((ar9 x L μ 1 (na9 1) 0 0 (txE x L e)).2)) := eσ_34_h
            have hcFR_σ_34 : ∀ a, (464 ≤ a ∧ a ≠ 5010 ∧ a ≠ 5009 ∧ a ≠ 4004 ∧ (a < 5005 ∨ 5008 < a) ∨ a = 10) → σ_34 a = σ a := by intro a ha; exact Eq.trans (b := σ_32 a) (eσ_34_i a (by first | omega | (simp only [vb] at *; omega))) (hcFR_σ_32 a ha)
            have hcTD_σ_34 : TD σ_34 (b5 || decide (k = 5)) (b6 || decide (k = 6)) := by exact TD.fr hcTD_σ_32 (eσ_34_i _ (by first | omega | (simp only [vb] at *; omega)))
            have hvσ_34 : vw 0 σ_34 = μ_33 := by rw [vw_fr (σ := σ_32) (fun j _ _ => eσ_34_i _ (by first | omega | (simp only [vb] at *; omega)))]; first | exact hvσ_32 | assumption
            refine g_ifB_eq h dX12_aLine_135 (fun c135 => ?_) (fun c135 => ?_)
            ·
              refine g_iconst h dX12_aLine_142 (by decide) ?_
              exact g_zret h hQ dX12_aLine_143 (show narrow .boolean (.int (b2i false)) = .int (b2i false) from narrow_b2i _) (congrArg (fun z => some (Value.int (b2i z))) (show (decide ((ln9 x L (0, e, μ, b5, b6)).1 = 0)) = false by rw [hR]; first | rfl | exact decide_eq_true rfl | exact decide_eq_false hq9 | exact decide_eq_false (tff_0 (by decide)) | exact c115 | exact c135 | exact c165 | exact c185 | exact c208 | exact c231 | exact c251 | decide)) (by exact ⟨(by first | (rw [hR]; exact (hvσ_34).trans (by simp only [eμ_33]; exact if_neg hq9)) | (rw [hR]; exact (hvσ_34).trans (by simp only [eμ_33]; exact if_pos hq9)) | (rw [hR]; exact hvσ_34) | fail), (by first | exact ht5004_σ_34 | assumption | fail), (by rw [hR]; exact ht5005_σ_34), (by rw [hR]; exact ht5006_σ_34), (by rw [hR]; exact ht5007_σ_34), (by rw [hR]; exact ht5009_σ_34), (by first | (rw [hR]; exact ht4004_σ_34) | (rw [hR]; exact (ht4004_σ_34).trans (if_neg (by first | exact tff_0 (by decide) | decide)).symm) | fail), (by first | exact hcTX_σ_34 | assumption | fail), (by rw [hR]; exact hcVL_σ_34), (by first | (intro _; rw [hR]; exact hcTD_σ_34) | (intro z; rw [hR] at z; exact absurd z hq9) | (intro z; rw [hR] at z; exact absurd z (by first | exact tff_0 (by decide) | decide)) | fail), (by exact hcFR_σ_34)⟩)
            ·
              refine g_iconst h dX12_aLine_138 (by decide) ?_
              refine g_goto h dX12_aLine_139 ?_
              exact g_zret h hQ dX12_aLine_143 (show narrow .boolean (.int (b2i true)) = .int (b2i true) from narrow_b2i _) (congrArg (fun z => some (Value.int (b2i z))) (show (decide ((ln9 x L (0, e, μ, b5, b6)).1 = 0)) = true by rw [hR]; first | rfl | exact decide_eq_true rfl | exact decide_eq_false hq9 | exact decide_eq_false (tff_0 (by decide)) | exact c115 | exact c135 | exact c165 | exact c185 | exact c208 | exact c231 | exact c251 | decide)) (by exact ⟨(by first | (rw [hR]; exact (hvσ_34).trans (by simp only [eμ_33]; exact if_neg hq9)) | (rw [hR]; exact (hvσ_34).trans (by simp only [eμ_33]; exact if_pos hq9)) | (rw [hR]; exact hvσ_34) | fail), (by first | exact ht5004_σ_34 | assumption | fail), (by rw [hR]; exact ht5005_σ_34), (by rw [hR]; exact ht5006_σ_34), (by rw [hR]; exact ht5007_σ_34), (by rw [hR]; exact ht5009_σ_34), (by first | (rw [hR]; exact ht4004_σ_34) | (rw [hR]; exact (ht4004_σ_34).trans (if_neg (by first | exact tff_0 (by decide) | decide)).symm) | fail), (by first | exact hcTX_σ_34 | assumption | fail), (by rw [hR]; exact hcVL_σ_34), (by first | (intro _; rw [hR]; exact hcTD_σ_34) | (intro z; rw [hR] at z; exact absurd z hq9) | (intro z; rw [hR] at z; exact absurd z (by first | exact tff_0 (by decide) | decide)) | fail), (by exact hcFR_σ_34)⟩)
        ·
          refine g_tsw (off := 83) (tgt := 144) h dX12_aLine_61 (nI 2) (by rw [hc61]) (by decide) (by decide) (by decide +kernel) (by decide) ?_
          have J155 : ∀ (bo : Bool), (bo = decide (k = 2)) → G X w 2 155 [(0, .ref (w.1 0)), (1, .int (nI k))] [.int (b2i bo), .ref (w.1 0)] σ_28 := by
            intro bo hbo
            refine g_cvi (rest := []) h (r_anAir hW bo (txE x L e) L x p0 μ (by first | omega | assumption | fail) (by first | omega | assumption | fail) (by first | exact hvσ_28 | assumption | fail) (by assumption) (by first | exact ht5004_σ_28 | assumption | fail) (by first | exact ht5005_σ_28 | assumption | fail) (by first | exact ht5006_σ_28 | assumption | fail) (by first | exact ht5007_σ_28 | assumption | fail) (by first | exact ht5009_σ_28 | assumption | fail) (by first | exact ht4004_σ_28 | assumption | fail) (by first | exact hcTX_σ_28 | assumption | fail) (by first | exact hcVL_σ_28 | assumption | fail)) lX12_anAir mX12_259 (Nat.lt_of_lt_of_le (by decide) (Nat.le_refl _)) (by decide) sc_0 rfl rfl rfl rfl dX12_aLine_155 (fun σ_35 eσ_35 => ?_)
            obtain ⟨eσ_35_a, eσ_35_b, eσ_35_c, eσ_35_d, eσ_35_e, eσ_35_f, eσ_35_g, eσ_35_h, eσ_35_i, eσ_35_j⟩ := eσ_35
            have eσ_35_a : vw 0 σ_35 = pk0 (ar9 x L μ (kb bo) (na9 (kb bo)) 0 0 (txE x L e)).1 (EF μ (kb bo) (txV x L (txE x L e)) (txV x L (txE x L (txE x L e))) (txV x L (txE x L (txE x L (txE x L e))))) μ := eσ_35_a
            have eσ_35_b : σ_35 5004 = (nI L) := eσ_35_b
            have eσ_35_c : σ_35 5005 = (nI (kr (txK x L (ar9 x L μ (kb bo) (na9 (kb bo)) 0 0 (txE x L e)).2))) := eσ_35_c
            have eσ_35_d : σ_35 5006 = (nI (txS x L (ar9 x L μ (kb bo) (na9 (kb bo)) 0 0 (txE x L e)).2)) := eσ_35_d
            have eσ_35_e : σ_35 5007 = (nI (txE x L (ar9 x L μ (kb bo) (na9 (kb bo)) 0 0 (txE x L e)).2)) := eσ_35_e
            have eσ_35_f : σ_35 5009 = (nI ((ar9 x L μ (kb bo) (na9 (kb bo)) 0 0 (txE x L e)).1)) := eσ_35_f
            have eσ_35_g : σ_35 4004 = (if (ar9 x L μ (kb bo) (na9 (kb bo)) 0 0 (txE x L e)).1 = 0 then p0 else nI (txS x L (ar9 x L μ (kb bo) (na9 (kb bo)) 0 0 (txE x L e)).2)) := eσ_35_g
            have eσ_35_h : TX 5600 σ_35 L x := eσ_35_h
            have eσ_35_i : VL σ_35 x L (ar9 x L μ (kb bo) (na9 (kb bo)) 0 0 (txE x L e)).2 := eσ_35_i
            have eσ_35_j : ∀ a, (464 ≤ a ∧ a ≠ 5009 ∧ a ≠ 4004 ∧ (a < 5005 ∨ 5008 < a) ∨ a = 10) → σ_35 a = σ_28 a := eσ_35_j
            have ht5004_σ_35 : σ_35 5004 = (nI L) := eσ_35_b
            have ht5005_σ_35 : σ_35 5005 = (nI (kr (txK x L (ar9 x L μ (kb bo) (na9 (kb bo)) 0 0 (txE x L e)).2))) := eσ_35_c
            have ht5006_σ_35 : σ_35 5006 = (nI (txS x L (ar9 x L μ (kb bo) (na9 (kb bo)) 0 0 (txE x L e)).2)) := eσ_35_d
            have ht5007_σ_35 : σ_35 5007 = (nI (txE x L (ar9 x L μ (kb bo) (na9 (kb bo)) 0 0 (txE x L e)).2)) := eσ_35_e
            have ht5009_σ_35 : σ_35 5009 = (nI ((ar9 x L μ (kb bo) (na9 (kb bo)) 0 0 (txE x L e)).1)) := eσ_35_f
            have ht4004_σ_35 : σ_35 4004 = (if (ar9 x L μ (kb bo) (na9 (kb bo)) 0 0 (txE x L e)).1 = 0 then p0 else nI (txS x L (ar9 x L μ (kb bo) (na9 (kb bo)) 0 0 (txE x L e)).2)) := eσ_35_g
            have hcTX_σ_35 : TX 5600 σ_35 L x := eσ_35_h
            have hcVL_σ_35 : VL σ_35 x L (ar9 x L μ (kb bo) (na9 (kb bo)) 0 0 (txE x L e)).2 := eσ_35_i
            have hcFR_σ_35 : ∀ a, (464 ≤ a ∧ a ≠ 5010 ∧ a ≠ 5009 ∧ a ≠ 4004 ∧ (a < 5005 ∨ 5008 < a) ∨ a = 10) → σ_35 a = σ a := by intro a ha; exact Eq.trans (b := σ_28 a) (eσ_35_j a (by first | omega | (simp only [vb] at *; omega))) (hcFR_σ_28 a ha)
            have hcTD_σ_35 : TD σ_35 (b5 || decide (k = 5)) (b6 || decide (k = 6)) := by exact TD.fr hcTD_σ_28 (eσ_35_j _ (by first | omega | (simp only [vb] at *; omega)))
            obtain ⟨μ_36, eμ_36⟩ : ∃ μ_36 : Nat → Int32, μ_36 = pk0 (ar9 x L μ (kb bo) (na9 (kb bo)) 0 0 (txE x L e)).1 (EF μ (kb bo) (txV x L (txE x L e)) (txV x L (txE x L (txE x L e))) (txV x L (txE x L (txE x L (txE x L e))))) μ := ⟨_, rfl⟩
            have hvσ_35 : vw 0 σ_35 = μ_36 := by rw [eμ_36]; exact eσ_35_a
            refine g_ifB_eq h dX12_aLine_158 (fun c158 => ?_) (fun c158 => ?_)
            ·
              have hq9 : (ar9 x L μ (kb bo) (na9 (kb bo)) 0 0 (txE x L e)).1 ≠ 0 := of_decide_eq_false c158
              have hR := ln_f (b5 := b5) (b6 := b6) hK1 hW1 hnt (kb_k hbo (by omega)) hq9
              refine g_iconst h dX12_aLine_172 (by decide) ?_
              exact g_zret h hQ dX12_aLine_173 (show narrow .boolean (.int (b2i false)) = .int (b2i false) from narrow_b2i _) (congrArg (fun z => some (Value.int (b2i z))) (show (decide ((ln9 x L (0, e, μ, b5, b6)).1 = 0)) = false by rw [hR]; first | rfl | exact decide_eq_true rfl | exact decide_eq_false hq9 | exact decide_eq_false (tff_0 (by decide)) | exact c115 | exact c135 | exact c165 | exact c185 | exact c208 | exact c231 | exact c251 | decide)) (by exact ⟨(by first | (rw [hR]; exact (hvσ_35).trans (by simp only [eμ_36]; exact if_neg hq9)) | (rw [hR]; exact (hvσ_35).trans (by simp only [eμ_36]; exact if_pos hq9)) | (rw [hR]; exact hvσ_35) | fail), (by first | exact ht5004_σ_35 | assumption | fail), (by rw [hR]; exact ht5005_σ_35), (by rw [hR]; exact ht5006_σ_35), (by rw [hR]; exact ht5007_σ_35), (by rw [hR]; exact ht5009_σ_35), (by first | (rw [hR]; exact ht4004_σ_35) | (rw [hR]; exact (ht4004_σ_35).trans (if_neg (by first | exact tff_0 (by decide) | decide)).symm) | fail), (by first | exact hcTX_σ_35 | assumption | fail), (by rw [hR]; exact hcVL_σ_35), (by first | (intro _; rw [hR]; exact hcTD_σ_35) | (intro z; rw [hR] at z; exact absurd z hq9) | (intro z; rw [hR] at z; exact absurd z (by first | exact tff_0 (by decide) | decide)) | fail), (by exact hcFR_σ_35)⟩)
            ·
              have hq9 : (ar9 x L μ (kb bo) (na9 (kb bo)) 0 0 (txE x L e)).1 = 0 := of_decide_eq_true c158
              have hR := ln_y (b5 := b5) (b6 := b6) hK1 hW1 hnt (kb_k hbo (by omega)) hq9
              have hab := (ar9_b (x := x) (L := L) (μ := μ) (k := (kb bo)) (na9 (kb bo)) 0 0 (txE x L e) hb.2.2).2.2
              have ht5009_σ_35 : σ_35 5009 = (nI 0) := by rw [ht5009_σ_35, hq9]
              have ht4004_σ_35 : σ_35 4004 = p0 := by rw [ht4004_σ_35, if_pos hq9]
              refine g_aload_n h dX12_aLine_161 0 rfl ?_
              refine g_cvi (rest := []) h (r_closes hW ((ar9 x L μ (kb bo) (na9 (kb bo)) 0 0 (txE x L e)).2) L x p0 (by first | omega | assumption | fail) (by first | omega | assumption | fail) (by first | exact ht5004_σ_35 | assumption | fail) (by first | exact ht5005_σ_35 | assumption | fail) (by first | exact ht5006_σ_35 | assumption | fail) (by first | exact ht5007_σ_35 | assumption | fail) (by first | exact ht5009_σ_35 | assumption | fail) (by first | exact ht4004_σ_35 | assumption | fail) (by first | exact hcTX_σ_35 | assumption | fail) (by first | exact hcVL_σ_35 | assumption | fail)) lX12_closes mX12_253 (Nat.lt_of_lt_of_le (by decide) (Nat.le_refl _)) (by decide) sc_0 rfl rfl rfl rfl dX12_aLine_162 (fun σ_37 eσ_37 => ?_)
              obtain ⟨eσ_37_a, eσ_37_b, eσ_37_c, eσ_37_d, eσ_37_e, eσ_37_f, eσ_37_g, eσ_37_h, eσ_37_i⟩ := eσ_37
              have eσ_37_a : σ_37 5004 = (nI L) := eσ_37_a
              have eσ_37_b : σ_37 5005 = (nI (kr (txK x L (cl9 x L ((ar9 x L μ (kb bo) (na9 (kb bo)) 0 0 (txE x L e)).2))))) := eσ_37_b
              have eσ_37_c : σ_37 5006 = (nI (txS x L (cl9 x L ((ar9 x L μ (kb bo) (na9 (kb bo)) 0 0 (txE x L e)).2)))) := eσ_37_c
              have eσ_37_d : σ_37 5007 = (nI (txE x L (cl9 x L ((ar9 x L μ (kb bo) (na9 (kb bo)) 0 0 (txE x L e)).2)))) := eσ_37_d
              have eσ_37_e : σ_37 5009 = (nI (tf9 (txK x L ((ar9 x L μ (kb bo) (na9 (kb bo)) 0 0 (txE x L e)).2)) 3)) := eσ_37_e
              have eσ_37_f : σ_37 4004 = (if tf9 (txK x L ((ar9 x L μ (kb bo) (na9 (kb bo)) 0 0 (txE x L e)).2)) 3 = 0 then p0 else nI (txS x L (cl9 x L ((ar9 x L μ (kb bo) (na9 (kb bo)) 0 0 (txE x L e)).2)))) := eσ_37_f
              have eσ_37_g : TX 5600 σ_37 L x := eσ_37_g
              have eσ_37_h : VL σ_37 x L (cl9 x L ((ar9 x L μ (kb bo) (na9 (kb bo)) 0 0 (txE x L e)).2)) := eσ_37_h
              have eσ_37_i : ∀ a, (a ≠ 5009 ∧ a ≠ 4004 ∧ (a < 5005 ∨ 5008 < a)) → σ_37 a = σ_35 a := eσ_37_i
              have ht5004_σ_37 : σ_37 5004 = (nI L) := eσ_37_a
              have ht5005_σ_37 : σ_37 5005 = (nI (kr (txK x L (cl9 x L ((ar9 x L μ (kb bo) (na9 (kb bo)) 0 0 (txE x L e)).2))))) := eσ_37_b
              have ht5006_σ_37 : σ_37 5006 = (nI (txS x L (cl9 x L ((ar9 x L μ (kb bo) (na9 (kb bo)) 0 0 (txE x L e)).2)))) := eσ_37_c
              have ht5007_σ_37 : σ_37 5007 = (nI (txE x L (cl9 x L ((ar9 x L μ (kb bo) (na9 (kb bo)) 0 0 (txE x L e)).2)))) := eσ_37_d
              have ht5009_σ_37 : σ_37 5009 = (nI (tf9 (txK x L ((ar9 x L μ (kb bo) (na9 (kb bo)) 0 0 (txE x L e)).2)) 3)) := eσ_37_e
              have ht4004_σ_37 : σ_37 4004 = (if tf9 (txK x L ((ar9 x L μ (kb bo) (na9 (kb bo)) 0 0 (txE x L e)).2)) 3 = 0 then p0 else nI (txS x L (cl9 x L ((ar9 x L μ (kb bo) (na9 (kb bo)) 0 0 (txE x L e)).2)))) := eσ_37_f
              have hcTX_σ_37 : TX 5600 σ_37 L x := eσ_37_g
              have hcVL_σ_37 : VL σ_37 x L (cl9 x L ((ar9 x L μ (kb bo) (na9 (kb bo)) 0 0 (txE x L e)).2)) := eσ_37_h
              have hcFR_σ_37 : ∀ a, (464 ≤ a ∧ a ≠ 5010 ∧ a ≠ 5009 ∧ a ≠ 4004 ∧ (a < 5005 ∨ 5008 < a) ∨ a = 10) → σ_37 a = σ a := by intro a ha; exact Eq.trans (b := σ_35 a) (eσ_37_i a (by first | omega | (simp only [vb] at *; omega))) (hcFR_σ_35 a ha)
              have hcTD_σ_37 : TD σ_37 (b5 || decide (k = 5)) (b6 || decide (k = 6)) := by exact TD.fr hcTD_σ_35 (eσ_37_i _ (by first | omega | (simp only [vb] at *; omega)))
              have hvσ_37 : vw 0 σ_37 = μ_36 := by rw [vw_fr (σ := σ_35) (fun j _ _ => eσ_37_i _ (by first | omega | (simp only [vb] at *; omega)))]; first | exact hvσ_35 | assumption
              refine g_ifB_eq h dX12_aLine_165 (fun c165 => ?_) (fun c165 => ?_)
              ·
                refine g_iconst h dX12_aLine_172 (by decide) ?_
                exact g_zret h hQ dX12_aLine_173 (show narrow .boolean (.int (b2i false)) = .int (b2i false) from narrow_b2i _) (congrArg (fun z => some (Value.int (b2i z))) (show (decide ((ln9 x L (0, e, μ, b5, b6)).1 = 0)) = false by rw [hR]; first | rfl | exact decide_eq_true rfl | exact decide_eq_false hq9 | exact decide_eq_false (tff_0 (by decide)) | exact c115 | exact c135 | exact c165 | exact c185 | exact c208 | exact c231 | exact c251 | decide)) (by exact ⟨(by first | (rw [hR]; exact (hvσ_37).trans (by simp only [eμ_36]; exact if_neg hq9)) | (rw [hR]; exact (hvσ_37).trans (by simp only [eμ_36]; exact if_pos hq9)) | (rw [hR]; exact hvσ_37) | fail), (by first | exact ht5004_σ_37 | assumption | fail), (by rw [hR]; exact ht5005_σ_37), (by rw [hR]; exact ht5006_σ_37), (by rw [hR]; exact ht5007_σ_37), (by rw [hR]; exact ht5009_σ_37), (by first | (rw [hR]; exact ht4004_σ_37) | (rw [hR]; exact (ht4004_σ_37).trans (if_neg (by first | exact tff_0 (by decide) | decide)).symm) | fail), (by first | exact hcTX_σ_37 | assumption | fail), (by rw [hR]; exact hcVL_σ_37), (by first | (intro _; rw [hR]; exact hcTD_σ_37) | (intro z; rw [hR] at z; exact absurd z hq9) | (intro z; rw [hR] at z; exact absurd z (by first | exact tff_0 (by decide) | decide)) | fail), (by exact hcFR_σ_37)⟩)
              ·
                refine g_iconst h dX12_aLine_168 (by decide) ?_
                refine g_goto h dX12_aLine_169 ?_
                exact g_zret h hQ dX12_aLine_173 (show narrow .boolean (.int (b2i true)) = .int (b2i true) from narrow_b2i _) (congrArg (fun z => some (Value.int (b2i z))) (show (decide ((ln9 x L (0, e, μ, b5, b6)).1 = 0)) = true by rw [hR]; first | rfl | exact decide_eq_true rfl | exact decide_eq_false hq9 | exact decide_eq_false (tff_0 (by decide)) | exact c115 | exact c135 | exact c165 | exact c185 | exact c208 | exact c231 | exact c251 | decide)) (by exact ⟨(by first | (rw [hR]; exact (hvσ_37).trans (by simp only [eμ_36]; exact if_neg hq9)) | (rw [hR]; exact (hvσ_37).trans (by simp only [eμ_36]; exact if_pos hq9)) | (rw [hR]; exact hvσ_37) | fail), (by first | exact ht5004_σ_37 | assumption | fail), (by rw [hR]; exact ht5005_σ_37), (by rw [hR]; exact ht5006_σ_37), (by rw [hR]; exact ht5007_σ_37), (by rw [hR]; exact ht5009_σ_37), (by first | (rw [hR]; exact ht4004_σ_37) | (rw [hR]; exact (ht4004_σ_37).trans (if_neg (by first | exact tff_0 (by decide) | decide)).symm) | fail), (by first | exact hcTX_σ_37 | assumption | fail), (by rw [hR]; exact hcVL_σ_37), (by first | (intro _; rw [hR]; exact hcTD_σ_37) | (intro z; rw [hR] at z; exact absurd z hq9) | (intro z; rw [hR] at z; exact absurd z (by first | exact tff_0 (by decide) | decide)) | fail), (by exact hcFR_σ_37)⟩)
          refine g_aload_n h dX12_aLine_144 0 rfl ?_
          refine g_iload_n h dX12_aLine_145 1 rfl ?_
          refine g_iconst h dX12_aLine_146 (by decide) ?_
          refine g_icmpN_ne h dX12_aLine_147 (by omega) (by omega) (fun c147 => ?_) (fun c147 => ?_)
          ·
            refine g_iconst h dX12_aLine_154 (by decide) ?_
            exact J155 false (by first | exact (decide_eq_true (by omega)).symm | exact (decide_eq_false (by omega)).symm | fail | fail)
          ·
            refine g_iconst h dX12_aLine_150 (by decide) ?_
            refine g_goto h dX12_aLine_151 ?_
            exact J155 true (by first | exact (decide_eq_true (by omega)).symm | exact (decide_eq_false (by omega)).symm | fail | fail)
        ·
          refine g_tsw (off := 83) (tgt := 144) h dX12_aLine_61 (nI 3) (by rw [hc61]) (by decide) (by decide) (by decide +kernel) (by decide) ?_
          have J155 : ∀ (bo : Bool), (bo = decide (k = 2)) → G X w 2 155 [(0, .ref (w.1 0)), (1, .int (nI k))] [.int (b2i bo), .ref (w.1 0)] σ_28 := by
            intro bo hbo
            refine g_cvi (rest := []) h (r_anAir hW bo (txE x L e) L x p0 μ (by first | omega | assumption | fail) (by first | omega | assumption | fail) (by first | exact hvσ_28 | assumption | fail) (by assumption) (by first | exact ht5004_σ_28 | assumption | fail) (by first | exact ht5005_σ_28 | assumption | fail) (by first | exact ht5006_σ_28 | assumption | fail) (by first | exact ht5007_σ_28 | assumption | fail) (by first | exact ht5009_σ_28 | assumption | fail) (by first | exact ht4004_σ_28 | assumption | fail) (by first | exact hcTX_σ_28 | assumption | fail) (by first | exact hcVL_σ_28 | assumption | fail)) lX12_anAir mX12_259 (Nat.lt_of_lt_of_le (by decide) (Nat.le_refl _)) (by decide) sc_0 rfl rfl rfl rfl dX12_aLine_155 (fun σ_38 eσ_38 => ?_)
            obtain ⟨eσ_38_a, eσ_38_b, eσ_38_c, eσ_38_d, eσ_38_e, eσ_38_f, eσ_38_g, eσ_38_h, eσ_38_i, eσ_38_j⟩ := eσ_38
            have eσ_38_a : vw 0 σ_38 = pk0 (ar9 x L μ (kb bo) (na9 (kb bo)) 0 0 (txE x L e)).1 (EF μ (kb bo) (txV x L (txE x L e)) (txV x L (txE x L (txE x L e))) (txV x L (txE x L (txE x L (txE x L e))))) μ := eσ_38_a
            have eσ_38_b : σ_38 5004 = (nI L) := eσ_38_b
            have eσ_38_c : σ_38 5005 = (nI (kr (txK x L (ar9 x L μ (kb bo) (na9 (kb bo)) 0 0 (txE x L e)).2))) := eσ_38_c
            have eσ_38_d : σ_38 5006 = (nI (txS x L (ar9 x L μ (kb bo) (na9 (kb bo)) 0 0 (txE x L e)).2)) := eσ_38_d
            have eσ_38_e : σ_38 5007 = (nI (txE x L (ar9 x L μ (kb bo) (na9 (kb bo)) 0 0 (txE x L e)).2)) := eσ_38_e
            have eσ_38_f : σ_38 5009 = (nI ((ar9 x L μ (kb bo) (na9 (kb bo)) 0 0 (txE x L e)).1)) := eσ_38_f
            have eσ_38_g : σ_38 4004 = (if (ar9 x L μ (kb bo) (na9 (kb bo)) 0 0 (txE x L e)).1 = 0 then p0 else nI (txS x L (ar9 x L μ (kb bo) (na9 (kb bo)) 0 0 (txE x L e)).2)) := eσ_38_g
            have eσ_38_h : TX 5600 σ_38 L x := eσ_38_h
            have eσ_38_i : VL σ_38 x L (ar9 x L μ (kb bo) (na9 (kb bo)) 0 0 (txE x L e)).2 := eσ_38_i
            have eσ_38_j : ∀ a, (464 ≤ a ∧ a ≠ 5009 ∧ a ≠ 4004 ∧ (a < 5005 ∨ 5008 < a) ∨ a = 10) → σ_38 a = σ_28 a := eσ_38_j
            have ht5004_σ_38 : σ_38 5004 = (nI L) := eσ_38_b
            have ht5005_σ_38 : σ_38 5005 = (nI (kr (txK x L (ar9 x L μ (kb bo) (na9 (kb bo)) 0 0 (txE x L e)).2))) := eσ_38_c
            have ht5006_σ_38 : σ_38 5006 = (nI (txS x L (ar9 x L μ (kb bo) (na9 (kb bo)) 0 0 (txE x L e)).2)) := eσ_38_d
            have ht5007_σ_38 : σ_38 5007 = (nI (txE x L (ar9 x L μ (kb bo) (na9 (kb bo)) 0 0 (txE x L e)).2)) := eσ_38_e
            have ht5009_σ_38 : σ_38 5009 = (nI ((ar9 x L μ (kb bo) (na9 (kb bo)) 0 0 (txE x L e)).1)) := eσ_38_f
            have ht4004_σ_38 : σ_38 4004 = (if (ar9 x L μ (kb bo) (na9 (kb bo)) 0 0 (txE x L e)).1 = 0 then p0 else nI (txS x L (ar9 x L μ (kb bo) (na9 (kb bo)) 0 0 (txE x L e)).2)) := eσ_38_g
            have hcTX_σ_38 : TX 5600 σ_38 L x := eσ_38_h
            have hcVL_σ_38 : VL σ_38 x L (ar9 x L μ (kb bo) (na9 (kb bo)) 0 0 (txE x L e)).2 := eσ_38_i
            have hcFR_σ_38 : ∀ a, (464 ≤ a ∧ a ≠ 5010 ∧ a ≠ 5009 ∧ a ≠ 4004 ∧ (a < 5005 ∨ 5008 < a) ∨ a = 10) → σ_38 a = σ a := by intro a ha; exact Eq.trans (b := σ_28 a) (eσ_38_j a (by first | omega | (simp only [vb] at *; omega))) (hcFR_σ_28 a ha)
            have hcTD_σ_38 : TD σ_38 (b5 || decide (k = 5)) (b6 || decide (k = 6)) := by exact TD.fr hcTD_σ_28 (eσ_38_j _ (by first | omega | (simp only [vb] at *; omega)))
            obtain ⟨μ_39, eμ_39⟩ : ∃ μ_39 : Nat → Int32, μ_39 = pk0 (ar9 x L μ (kb bo) (na9 (kb bo)) 0 0 (txE x L e)).1 (EF μ (kb bo) (txV x L (txE x L e)) (txV x L (txE x L (txE x L e))) (txV x L (txE x L (txE x L (txE x L e))))) μ := ⟨_, rfl⟩
            have hvσ_38 : vw 0 σ_38 = μ_39 := by rw [eμ_39]; exact eσ_38_a
            refine g_ifB_eq h dX12_aLine_158 (fun c158 => ?_) (fun c158 => ?_)
            ·
              have hq9 : (ar9 x L μ (kb bo) (na9 (kb bo)) 0 0 (txE x L e)).1 ≠ 0 := of_decide_eq_false c158
              have hR := ln_f (b5 := b5) (b6 := b6) hK1 hW1 hnt (kb_k hbo (by omega)) hq9
              refine g_iconst h dX12_aLine_172 (by decide) ?_
              exact g_zret h hQ dX12_aLine_173 (show narrow .boolean (.int (b2i false)) = .int (b2i false) from narrow_b2i _) (congrArg (fun z => some (Value.int (b2i z))) (show (decide ((ln9 x L (0, e, μ, b5, b6)).1 = 0)) = false by rw [hR]; first | rfl | exact decide_eq_true rfl | exact decide_eq_false hq9 | exact decide_eq_false (tff_0 (by decide)) | exact c115 | exact c135 | exact c165 | exact c185 | exact c208 | exact c231 | exact c251 | decide)) (by exact ⟨(by first | (rw [hR]; exact (hvσ_38).trans (by simp only [eμ_39]; exact if_neg hq9)) | (rw [hR]; exact (hvσ_38).trans (by simp only [eμ_39]; exact if_pos hq9)) | (rw [hR]; exact hvσ_38) | fail), (by first | exact ht5004_σ_38 | assumption | fail), (by rw [hR]; exact ht5005_σ_38), (by rw [hR]; exact ht5006_σ_38), (by rw [hR]; exact ht5007_σ_38), (by rw [hR]; exact ht5009_σ_38), (by first | (rw [hR]; exact ht4004_σ_38) | (rw [hR]; exact (ht4004_σ_38).trans (if_neg (by first | exact tff_0 (by decide) | decide)).symm) | fail), (by first | exact hcTX_σ_38 | assumption | fail), (by rw [hR]; exact hcVL_σ_38), (by first | (intro _; rw [hR]; exact hcTD_σ_38) | (intro z; rw [hR] at z; exact absurd z hq9) | (intro z; rw [hR] at z; exact absurd z (by first | exact tff_0 (by decide) | decide)) | fail), (by exact hcFR_σ_38)⟩)
            ·
              have hq9 : (ar9 x L μ (kb bo) (na9 (kb bo)) 0 0 (txE x L e)).1 = 0 := of_decide_eq_true c158
              have hR := ln_y (b5 := b5) (b6 := b6) hK1 hW1 hnt (kb_k hbo (by omega)) hq9
              have hab := (ar9_b (x := x) (L := L) (μ := μ) (k := (kb bo)) (na9 (kb bo)) 0 0 (txE x L e) hb.2.2).2.2
              have ht5009_σ_38 : σ_38 5009 = (nI 0) := by rw [ht5009_σ_38, hq9]
              have ht4004_σ_38 : σ_38 4004 = p0 := by rw [ht4004_σ_38, if_pos hq9]
              refine g_aload_n h dX12_aLine_161 0 rfl ?_
              refine g_cvi (rest := []) h (r_closes hW ((ar9 x L μ (kb bo) (na9 (kb bo)) 0 0 (txE x L e)).2) L x p0 (by first | omega | assumption | fail) (by first | omega | assumption | fail) (by first | exact ht5004_σ_38 | assumption | fail) (by first | exact ht5005_σ_38 | assumption | fail) (by first | exact ht5006_σ_38 | assumption | fail) (by first | exact ht5007_σ_38 | assumption | fail) (by first | exact ht5009_σ_38 | assumption | fail) (by first | exact ht4004_σ_38 | assumption | fail) (by first | exact hcTX_σ_38 | assumption | fail) (by first | exact hcVL_σ_38 | assumption | fail)) lX12_closes mX12_253 (Nat.lt_of_lt_of_le (by decide) (Nat.le_refl _)) (by decide) sc_0 rfl rfl rfl rfl dX12_aLine_162 (fun σ_40 eσ_40 => ?_)
              obtain ⟨eσ_40_a, eσ_40_b, eσ_40_c, eσ_40_d, eσ_40_e, eσ_40_f, eσ_40_g, eσ_40_h, eσ_40_i⟩ := eσ_40
              have eσ_40_a : σ_40 5004 = (nI L) := eσ_40_a
              have eσ_40_b : σ_40 5005 = (nI (kr (txK x L (cl9 x L ((ar9 x L μ (kb bo) (na9 (kb bo)) 0 0 (txE x L e)).2))))) := eσ_40_b
              have eσ_40_c : σ_40 5006 = (nI (txS x L (cl9 x L ((ar9 x L μ (kb bo) (na9 (kb bo)) 0 0 (txE x L e)).2)))) := eσ_40_c
              have eσ_40_d : σ_40 5007 = (nI (txE x L (cl9 x L ((ar9 x L μ (kb bo) (na9 (kb bo)) 0 0 (txE x L e)).2)))) := eσ_40_d
              have eσ_40_e : σ_40 5009 = (nI (tf9 (txK x L ((ar9 x L μ (kb bo) (na9 (kb bo)) 0 0 (txE x L e)).2)) 3)) := eσ_40_e
              have eσ_40_f : σ_40 4004 = (if tf9 (txK x L ((ar9 x L μ (kb bo) (na9 (kb bo)) 0 0 (txE x L e)).2)) 3 = 0 then p0 else nI (txS x L (cl9 x L ((ar9 x L μ (kb bo) (na9 (kb bo)) 0 0 (txE x L e)).2)))) := eσ_40_f
              have eσ_40_g : TX 5600 σ_40 L x := eσ_40_g
              have eσ_40_h : VL σ_40 x L (cl9 x L ((ar9 x L μ (kb bo) (na9 (kb bo)) 0 0 (txE x L e)).2)) := eσ_40_h
              have eσ_40_i : ∀ a, (a ≠ 5009 ∧ a ≠ 4004 ∧ (a < 5005 ∨ 5008 < a)) → σ_40 a = σ_38 a := eσ_40_i
              have ht5004_σ_40 : σ_40 5004 = (nI L) := eσ_40_a
              have ht5005_σ_40 : σ_40 5005 = (nI (kr (txK x L (cl9 x L ((ar9 x L μ (kb bo) (na9 (kb bo)) 0 0 (txE x L e)).2))))) := eσ_40_b
              have ht5006_σ_40 : σ_40 5006 = (nI (txS x L (cl9 x L ((ar9 x L μ (kb bo) (na9 (kb bo)) 0 0 (txE x L e)).2)))) := eσ_40_c
              have ht5007_σ_40 : σ_40 5007 = (nI (txE x L (cl9 x L ((ar9 x L μ (kb bo) (na9 (kb bo)) 0 0 (txE x L e)).2)))) := eσ_40_d
              have ht5009_σ_40 : σ_40 5009 = (nI (tf9 (txK x L ((ar9 x L μ (kb bo) (na9 (kb bo)) 0 0 (txE x L e)).2)) 3)) := eσ_40_e
              have ht4004_σ_40 : σ_40 4004 = (if tf9 (txK x L ((ar9 x L μ (kb bo) (na9 (kb bo)) 0 0 (txE x L e)).2)) 3 = 0 then p0 else nI (txS x L (cl9 x L ((ar9 x L μ (kb bo) (na9 (kb bo)) 0 0 (txE x L e)).2)))) := eσ_40_f
              have hcTX_σ_40 : TX 5600 σ_40 L x := eσ_40_g
              have hcVL_σ_40 : VL σ_40 x L (cl9 x L ((ar9 x L μ (kb bo) (na9 (kb bo)) 0 0 (txE x L e)).2)) := eσ_40_h
              have hcFR_σ_40 : ∀ a, (464 ≤ a ∧ a ≠ 5010 ∧ a ≠ 5009 ∧ a ≠ 4004 ∧ (a < 5005 ∨ 5008 < a) ∨ a = 10) → σ_40 a = σ a := by intro a ha; exact Eq.trans (b := σ_38 a) (eσ_40_i a (by first | omega | (simp only [vb] at *; omega))) (hcFR_σ_38 a ha)
              have hcTD_σ_40 : TD σ_40 (b5 || decide (k = 5)) (b6 || decide (k = 6)) := by exact TD.fr hcTD_σ_38 (eσ_40_i _ (by first | omega | (simp only [vb] at *; omega)))
              have hvσ_40 : vw 0 σ_40 = μ_39 := by rw [vw_fr (σ := σ_38) (fun j _ _ => eσ_40_i _ (by first | omega | (simp only [vb] at *; omega)))]; first | exact hvσ_38 | assumption
              refine g_ifB_eq h dX12_aLine_165 (fun c165 => ?_) (fun c165 => ?_)
              ·
                refine g_iconst h dX12_aLine_172 (by decide) ?_
                exact g_zret h hQ dX12_aLine_173 (show narrow .boolean (.int (b2i false)) = .int (b2i false) from narrow_b2i _) (congrArg (fun z => some (Value.int (b2i z))) (show (decide ((ln9 x L (0, e, μ, b5, b6)).1 = 0)) = false by rw [hR]; first | rfl | exact decide_eq_true rfl | exact decide_eq_false hq9 | exact decide_eq_false (tff_0 (by decide)) | exact c115 | exact c135 | exact c165 | exact c185 | exact c208 | exact c231 | exact c251 | decide)) (by exact ⟨(by first | (rw [hR]; exact (hvσ_40).trans (by simp only [eμ_39]; exact if_neg hq9)) | (rw [hR]; exact (hvσ_40).trans (by simp only [eμ_39]; exact if_pos hq9)) | (rw [hR]; exact hvσ_40) | fail), (by first | exact ht5004_σ_40 | assumption | fail), (by rw [hR]; exact ht5005_σ_40), (by rw [hR]; exact ht5006_σ_40), (by rw [hR]; exact ht5007_σ_40), (by rw [hR]; exact ht5009_σ_40), (by first | (rw [hR]; exact ht4004_σ_40) | (rw [hR]; exact (ht4004_σ_40).trans (if_neg (by first | exact tff_0 (by decide) | decide)).symm) | fail), (by first | exact hcTX_σ_40 | assumption | fail), (by rw [hR]; exact hcVL_σ_40), (by first | (intro _; rw [hR]; exact hcTD_σ_40) | (intro z; rw [hR] at z; exact absurd z hq9) | (intro z; rw [hR] at z; exact absurd z (by first | exact tff_0 (by decide) | decide)) | fail), (by exact hcFR_σ_40)⟩)
              ·
                refine g_iconst h dX12_aLine_168 (by decide) ?_
                refine g_goto h dX12_aLine_169 ?_
                exact g_zret h hQ dX12_aLine_173 (show narrow .boolean (.int (b2i true)) = .int (b2i true) from narrow_b2i _) (congrArg (fun z => some (Value.int (b2i z))) (show (decide ((ln9 x L (0, e, μ, b5, b6)).1 = 0)) = true by rw [hR]; first | rfl | exact decide_eq_true rfl | exact decide_eq_false hq9 | exact decide_eq_false (tff_0 (by decide)) | exact c115 | exact c135 | exact c165 | exact c185 | exact c208 | exact c231 | exact c251 | decide)) (by exact ⟨(by first | (rw [hR]; exact (hvσ_40).trans (by simp only [eμ_39]; exact if_neg hq9)) | (rw [hR]; exact (hvσ_40).trans (by simp only [eμ_39]; exact if_pos hq9)) | (rw [hR]; exact hvσ_40) | fail), (by first | exact ht5004_σ_40 | assumption | fail), (by rw [hR]; exact ht5005_σ_40), (by rw [hR]; exact ht5006_σ_40), (by rw [hR]; exact ht5007_σ_40), (by rw [hR]; exact ht5009_σ_40), (by first | (rw [hR]; exact ht4004_σ_40) | (rw [hR]; exact (ht4004_σ_40).trans (if_neg (by first | exact tff_0 (by decide) | decide)).symm) | fail), (by first | exact hcTX_σ_40 | assumption | fail), (by rw [hR]; exact hcVL_σ_40), (by first | (intro _; rw [hR]; exact hcTD_σ_40) | (intro z; rw [hR] at z; exact absurd z hq9) | (intro z; rw [hR] at z; exact absurd z (by first | exact tff_0 (by decide) | decide)) | fail), (by exact hcFR_σ_40)⟩)
          refine g_aload_n h dX12_aLine_144 0 rfl ?_
          refine g_iload_n h dX12_aLine_145 1 rfl ?_
          refine g_iconst h dX12_aLine_146 (by decide) ?_
          refine g_icmpN_ne h dX12_aLine_147 (by omega) (by omega) (fun c147 => ?_) (fun c147 => ?_)
          ·
            refine g_iconst h dX12_aLine_154 (by decide) ?_
            exact J155 false (by first | exact (decide_eq_true (by omega)).symm | exact (decide_eq_false (by omega)).symm | fail | fail)
          ·
            refine g_iconst h dX12_aLine_150 (by decide) ?_
            refine g_goto h dX12_aLine_151 ?_
            exact J155 true (by first | exact (decide_eq_true (by omega)).symm | exact (decide_eq_false (by omega)).symm | fail | fail)
        ·
          refine g_tsw (off := 113) (tgt := 174) h dX12_aLine_61 (nI 4) (by rw [hc61]) (by decide) (by decide) (by decide +kernel) (by decide) ?_
          refine g_aload_n h dX12_aLine_174 0 rfl ?_
          refine g_cvi (rest := []) h (r_anOff hW (txE x L e) L x p0 μ (by first | omega | assumption | fail) (by first | omega | assumption | fail) (by first | exact hvσ_28 | assumption | fail) (by assumption) (by first | exact ht5004_σ_28 | assumption | fail) (by first | exact ht5005_σ_28 | assumption | fail) (by first | exact ht5006_σ_28 | assumption | fail) (by first | exact ht5007_σ_28 | assumption | fail) (by first | exact ht5009_σ_28 | assumption | fail) (by first | exact ht4004_σ_28 | assumption | fail) (by first | exact hcTX_σ_28 | assumption | fail) (by first | exact hcVL_σ_28 | assumption | fail)) lX12_anOff mX12_263 (Nat.lt_of_lt_of_le (by decide) (Nat.le_refl _)) (by decide) sc_0 rfl rfl rfl rfl dX12_aLine_175 (fun σ_41 eσ_41 => ?_)
          obtain ⟨eσ_41_a, eσ_41_b, eσ_41_c, eσ_41_d, eσ_41_e, eσ_41_f, eσ_41_g, eσ_41_h, eσ_41_i, eσ_41_j⟩ := eσ_41
          have eσ_41_a : vw 0 σ_41 = pk0 (ar9 x L μ 4 (na9 4) 0 0 (txE x L e)).1 (EF μ 4 (txV x L (txE x L e)) (txV x L (txE x L (txE x L e))) (txV x L (txE x L (txE x L (txE x L e))))) μ := eσ_41_a
          have eσ_41_b : σ_41 5004 = (nI L) := eσ_41_b
          have eσ_41_c : σ_41 5005 = (nI (kr (txK x L (ar9 x L μ 4 (na9 4) 0 0 (txE x L e)).2))) := eσ_41_c
          have eσ_41_d : σ_41 5006 = (nI (txS x L (ar9 x L μ 4 (na9 4) 0 0 (txE x L e)).2)) := eσ_41_d
          have eσ_41_e : σ_41 5007 = (nI (txE x L (ar9 x L μ 4 (na9 4) 0 0 (txE x L e)).2)) := eσ_41_e
          have eσ_41_f : σ_41 5009 = (nI ((ar9 x L μ 4 (na9 4) 0 0 (txE x L e)).1)) := eσ_41_f
          have eσ_41_g : σ_41 4004 = (if (ar9 x L μ 4 (na9 4) 0 0 (txE x L e)).1 = 0 then p0 else nI (txS x L (ar9 x L μ 4 (na9 4) 0 0 (txE x L e)).2)) := eσ_41_g
          have eσ_41_h : TX 5600 σ_41 L x := eσ_41_h
          have eσ_41_i : VL σ_41 x L (ar9 x L μ 4 (na9 4) 0 0 (txE x L e)).2 := eσ_41_i
          have eσ_41_j : ∀ a, (464 ≤ a ∧ a ≠ 5009 ∧ a ≠ 4004 ∧ (a < 5005 ∨ 5008 < a) ∨ a = 10) → σ_41 a = σ_28 a := eσ_41_j
          have ht5004_σ_41 : σ_41 5004 = (nI L) := eσ_41_b
          have ht5005_σ_41 : σ_41 5005 = (nI (kr (txK x L (ar9 x L μ 4 (na9 4) 0 0 (txE x L e)).2))) := eσ_41_c
          have ht5006_σ_41 : σ_41 5006 = (nI (txS x L (ar9 x L μ 4 (na9 4) 0 0 (txE x L e)).2)) := eσ_41_d
          have ht5007_σ_41 : σ_41 5007 = (nI (txE x L (ar9 x L μ 4 (na9 4) 0 0 (txE x L e)).2)) := eσ_41_e
          have ht5009_σ_41 : σ_41 5009 = (nI ((ar9 x L μ 4 (na9 4) 0 0 (txE x L e)).1)) := eσ_41_f
          have ht4004_σ_41 : σ_41 4004 = (if (ar9 x L μ 4 (na9 4) 0 0 (txE x L e)).1 = 0 then p0 else nI (txS x L (ar9 x L μ 4 (na9 4) 0 0 (txE x L e)).2)) := eσ_41_g
          have hcTX_σ_41 : TX 5600 σ_41 L x := eσ_41_h
          have hcVL_σ_41 : VL σ_41 x L (ar9 x L μ 4 (na9 4) 0 0 (txE x L e)).2 := eσ_41_i
          have hcFR_σ_41 : ∀ a, (464 ≤ a ∧ a ≠ 5010 ∧ a ≠ 5009 ∧ a ≠ 4004 ∧ (a < 5005 ∨ 5008 < a) ∨ a = 10) → σ_41 a = σ a := by intro a ha; exact Eq.trans (b := σ_28 a) (eσ_41_j a (by first | omega | (simp only [vb] at *; omega))) (hcFR_σ_28 a ha)
          have hcTD_σ_41 : TD σ_41 (b5 || decide (k = 5)) (b6 || decide (k = 6)) := by exact TD.fr hcTD_σ_28 (eσ_41_j _ (by first | omega | (simp only [vb] at *; omega)))
          obtain ⟨μ_42, eμ_42⟩ : ∃ μ_42 : Nat → Int32, μ_42 = pk0 (ar9 x L μ 4 (na9 4) 0 0 (txE x L e)).1 (EF μ 4 (txV x L (txE x L e)) (txV x L (txE x L (txE x L e))) (txV x L (txE x L (txE x L (txE x L e))))) μ := ⟨_, rfl⟩
          have hvσ_41 : vw 0 σ_41 = μ_42 := by rw [eμ_42]; exact eσ_41_a
          refine g_ifB_eq h dX12_aLine_178 (fun c178 => ?_) (fun c178 => ?_)
          ·
            have hq9 : (ar9 x L μ 4 (na9 4) 0 0 (txE x L e)).1 ≠ 0 := of_decide_eq_false c178
            have hR := ln_f (b5 := b5) (b6 := b6) hK1 hW1 hnt hc61 hq9
            refine g_iconst h dX12_aLine_192 (by decide) ?_
            exact g_zret h hQ dX12_aLine_193 (show narrow .boolean (.int (b2i false)) = .int (b2i false) from narrow_b2i _) (congrArg (fun z => some (Value.int (b2i z))) (show (decide ((ln9 x L (0, e, μ, b5, b6)).1 = 0)) = false by rw [hR]; first | rfl | exact decide_eq_true rfl | exact decide_eq_false hq9 | exact decide_eq_false (tff_0 (by decide)) | exact c115 | exact c135 | exact c165 | exact c185 | exact c208 | exact c231 | exact c251 | decide)) (by exact ⟨(by first | (rw [hR]; exact (hvσ_41).trans (by simp only [eμ_42]; exact if_neg hq9)) | (rw [hR]; exact (hvσ_41).trans (by simp only [eμ_42]; exact if_pos hq9)) | (rw [hR]; exact hvσ_41) | fail), (by first | exact ht5004_σ_41 | assumption | fail), (by rw [hR]; exact ht5005_σ_41), (by rw [hR]; exact ht5006_σ_41), (by rw [hR]; exact ht5007_σ_41), (by rw [hR]; exact ht5009_σ_41), (by first | (rw [hR]; exact ht4004_σ_41) | (rw [hR]; exact (ht4004_σ_41).trans (if_neg (by first | exact tff_0 (by decide) | decide)).symm) | fail), (by first | exact hcTX_σ_41 | assumption | fail), (by rw [hR]; exact hcVL_σ_41), (by first | (intro _; rw [hR]; exact hcTD_σ_41) | (intro z; rw [hR] at z; exact absurd z hq9) | (intro z; rw [hR] at z; exact absurd z (by first | exact tff_0 (by decide) | decide)) | fail), (by exact hcFR_σ_41)⟩)
          ·
            have hq9 : (ar9 x L μ 4 (na9 4) 0 0 (txE x L e)).1 = 0 := of_decide_eq_true c178
            have hR := ln_y (b5 := b5) (b6 := b6) hK1 hW1 hnt hc61 hq9
            have hab := (ar9_b (x := x) (L := L) (μ := μ) (k := 4) (na9 4) 0 0 (txE x L e) hb.2.2).2.2
            have ht5009_σ_41 : σ_41 5009 = (nI 0) := by rw [ht5009_σ_41, hq9]
            have ht4004_σ_41 : σ_41 4004 = p0 := by rw [ht4004_σ_41, if_pos hq9]
            refine g_aload_n h dX12_aLine_181 0 rfl ?_
            refine g_cvi (rest := []) h (r_closes hW ((ar9 x L μ 4 (na9 4) 0 0 (txE x L e)).2) L x p0 (by first | omega | assumption | fail) (by first | omega | assumption | fail) (by first | exact ht5004_σ_41 | assumption | fail) (by first | exact ht5005_σ_41 | assumption | fail) (by first | exact ht5006_σ_41 | assumption | fail) (by first | exact ht5007_σ_41 | assumption | fail) (by first | exact ht5009_σ_41 | assumption | fail) (by first | exact ht4004_σ_41 | assumption | fail) (by first | exact hcTX_σ_41 | assumption | fail) (by first | exact hcVL_σ_41 | assumption | fail)) lX12_closes mX12_253 (Nat.lt_of_lt_of_le (by decide) (Nat.le_refl _)) (by decide) sc_0 rfl rfl rfl rfl dX12_aLine_182 (fun σ_43 eσ_43 => ?_)
            obtain ⟨eσ_43_a, eσ_43_b, eσ_43_c, eσ_43_d, eσ_43_e, eσ_43_f, eσ_43_g, eσ_43_h, eσ_43_i⟩ := eσ_43
            have eσ_43_a : σ_43 5004 = (nI L) := eσ_43_a
            have eσ_43_b : σ_43 5005 = (nI (kr (txK x L (cl9 x L ((ar9 x L μ 4 (na9 4) 0 0 (txE x L e)).2))))) := eσ_43_b
            have eσ_43_c : σ_43 5006 = (nI (txS x L (cl9 x L ((ar9 x L μ 4 (na9 4) 0 0 (txE x L e)).2)))) := eσ_43_c
            have eσ_43_d : σ_43 5007 = (nI (txE x L (cl9 x L ((ar9 x L μ 4 (na9 4) 0 0 (txE x L e)).2)))) := eσ_43_d
            have eσ_43_e : σ_43 5009 = (nI (tf9 (txK x L ((ar9 x L μ 4 (na9 4) 0 0 (txE x L e)).2)) 3)) := eσ_43_e
            have eσ_43_f : σ_43 4004 = (if tf9 (txK x L ((ar9 x L μ 4 (na9 4) 0 0 (txE x L e)).2)) 3 = 0 then p0 else nI (txS x L (cl9 x L ((ar9 x L μ 4 (na9 4) 0 0 (txE x L e)).2)))) := eσ_43_f
            have eσ_43_g : TX 5600 σ_43 L x := eσ_43_g
            have eσ_43_h : VL σ_43 x L (cl9 x L ((ar9 x L μ 4 (na9 4) 0 0 (txE x L e)).2)) := eσ_43_h
            have eσ_43_i : ∀ a, (a ≠ 5009 ∧ a ≠ 4004 ∧ (a < 5005 ∨ 5008 < a)) → σ_43 a = σ_41 a := eσ_43_i
            have ht5004_σ_43 : σ_43 5004 = (nI L) := eσ_43_a
            have ht5005_σ_43 : σ_43 5005 = (nI (kr (txK x L (cl9 x L ((ar9 x L μ 4 (na9 4) 0 0 (txE x L e)).2))))) := eσ_43_b
            have ht5006_σ_43 : σ_43 5006 = (nI (txS x L (cl9 x L ((ar9 x L μ 4 (na9 4) 0 0 (txE x L e)).2)))) := eσ_43_c
            have ht5007_σ_43 : σ_43 5007 = (nI (txE x L (cl9 x L ((ar9 x L μ 4 (na9 4) 0 0 (txE x L e)).2)))) := eσ_43_d
            have ht5009_σ_43 : σ_43 5009 = (nI (tf9 (txK x L ((ar9 x L μ 4 (na9 4) 0 0 (txE x L e)).2)) 3)) := eσ_43_e
            have ht4004_σ_43 : σ_43 4004 = (if tf9 (txK x L ((ar9 x L μ 4 (na9 4) 0 0 (txE x L e)).2)) 3 = 0 then p0 else nI (txS x L (cl9 x L ((ar9 x L μ 4 (na9 4) 0 0 (txE x L e)).2)))) := eσ_43_f
            have hcTX_σ_43 : TX 5600 σ_43 L x := eσ_43_g
            have hcVL_σ_43 : VL σ_43 x L (cl9 x L ((ar9 x L μ 4 (na9 4) 0 0 (txE x L e)).2)) := eσ_43_h
            have hcFR_σ_43 : ∀ a, (464 ≤ a ∧ a ≠ 5010 ∧ a ≠ 5009 ∧ a ≠ 4004 ∧ (a < 5005 ∨ 5008 < a) ∨ a = 10) → σ_43 a = σ a := by intro a ha; exact Eq.trans (b := σ_41 a) (eσ_43_i a (by first | omega | (simp only [vb] at *; omega))) (hcFR_σ_41 a ha)
            have hcTD_σ_43 : TD σ_43 (b5 || decide (k = 5)) (b6 || decide (k = 6)) := by exact TD.fr hcTD_σ_41 (eσ_43_i _ (by first | omega | (simp only [vb] at *; omega)))
            have hvσ_43 : vw 0 σ_43 = μ_42 := by rw [vw_fr (σ := σ_41) (fun j _ _ => eσ_43_i _ (by first | omega | (simp only [vb] at *; omega)))]; first | exact hvσ_41 | assumption
            refine g_ifB_eq h dX12_aLine_185 (fun c185 => ?_) (fun c185 => ?_)
            ·
              refine g_iconst h dX12_aLine_192 (by decide) ?_
              exact g_zret h hQ dX12_aLine_193 (show narrow .boolean (.int (b2i false)) = .int (b2i false) from narrow_b2i _) (congrArg (fun z => some (Value.int (b2i z))) (show (decide ((ln9 x L (0, e, μ, b5, b6)).1 = 0)) = false by rw [hR]; first | rfl | exact decide_eq_true rfl | exact decide_eq_false hq9 | exact decide_eq_false (tff_0 (by decide)) | exact c115 | exact c135 | exact c165 | exact c185 | exact c208 | exact c231 | exact c251 | decide)) (by exact ⟨(by first | (rw [hR]; exact (hvσ_43).trans (by simp only [eμ_42]; exact if_neg hq9)) | (rw [hR]; exact (hvσ_43).trans (by simp only [eμ_42]; exact if_pos hq9)) | (rw [hR]; exact hvσ_43) | fail), (by first | exact ht5004_σ_43 | assumption | fail), (by rw [hR]; exact ht5005_σ_43), (by rw [hR]; exact ht5006_σ_43), (by rw [hR]; exact ht5007_σ_43), (by rw [hR]; exact ht5009_σ_43), (by first | (rw [hR]; exact ht4004_σ_43) | (rw [hR]; exact (ht4004_σ_43).trans (if_neg (by first | exact tff_0 (by decide) | decide)).symm) | fail), (by first | exact hcTX_σ_43 | assumption | fail), (by rw [hR]; exact hcVL_σ_43), (by first | (intro _; rw [hR]; exact hcTD_σ_43) | (intro z; rw [hR] at z; exact absurd z hq9) | (intro z; rw [hR] at z; exact absurd z (by first | exact tff_0 (by decide) | decide)) | fail), (by exact hcFR_σ_43)⟩)
            ·
              refine g_iconst h dX12_aLine_188 (by decide) ?_
              refine g_goto h dX12_aLine_189 ?_
              exact g_zret h hQ dX12_aLine_193 (show narrow .boolean (.int (b2i true)) = .int (b2i true) from narrow_b2i _) (congrArg (fun z => some (Value.int (b2i z))) (show (decide ((ln9 x L (0, e, μ, b5, b6)).1 = 0)) = true by rw [hR]; first | rfl | exact decide_eq_true rfl | exact decide_eq_false hq9 | exact decide_eq_false (tff_0 (by decide)) | exact c115 | exact c135 | exact c165 | exact c185 | exact c208 | exact c231 | exact c251 | decide)) (by exact ⟨(by first | (rw [hR]; exact (hvσ_43).trans (by simp only [eμ_42]; exact if_neg hq9)) | (rw [hR]; exact (hvσ_43).trans (by simp only [eμ_42]; exact if_pos hq9)) | (rw [hR]; exact hvσ_43) | fail), (by first | exact ht5004_σ_43 | assumption | fail), (by rw [hR]; exact ht5005_σ_43), (by rw [hR]; exact ht5006_σ_43), (by rw [hR]; exact ht5007_σ_43), (by rw [hR]; exact ht5009_σ_43), (by first | (rw [hR]; exact ht4004_σ_43) | (rw [hR]; exact (ht4004_σ_43).trans (if_neg (by first | exact tff_0 (by decide) | decide)).symm) | fail), (by first | exact hcTX_σ_43 | assumption | fail), (by rw [hR]; exact hcVL_σ_43), (by first | (intro _; rw [hR]; exact hcTD_σ_43) | (intro z; rw [hR] at z; exact absurd z hq9) | (intro z; rw [hR] at z; exact absurd z (by first | exact tff_0 (by decide) | decide)) | fail), (by exact hcFR_σ_43)⟩)
        ·
          refine g_tsw (off := 133) (tgt := 194) h dX12_aLine_61 (nI 5) (by rw [hc61]) (by decide) (by decide) (by decide +kernel) (by decide) ?_
          refine g_aload_n h dX12_aLine_194 0 rfl ?_
          refine g_iconst h dX12_aLine_195 (by decide) ?_
          refine g_bipush h dX12_aLine_196 (by decide) ?_
          refine g_cvi (rest := []) h (r_aTime hW 3 9 5 (txE x L e) L x p0 μ (by first | omega | assumption | fail) (by first | omega | assumption | fail) (by first | exact hvσ_28 | assumption | fail) (by assumption) (by omega) (by first | exact ht5004_σ_28 | assumption | fail) (by first | exact ht5005_σ_28 | assumption | fail) (by first | exact ht5006_σ_28 | assumption | fail) (by first | exact ht5007_σ_28 | assumption | fail) (by first | exact ht5009_σ_28 | assumption | fail) (by first | exact ht4004_σ_28 | assumption | fail) (by first | exact hcTX_σ_28 | assumption | fail) (by first | exact hcVL_σ_28 | assumption | fail)) lX12_aTime mX12_266 (Nat.lt_of_lt_of_le (by decide) (Nat.le_refl _)) (by decide) sc_0 rfl rfl rfl rfl dX12_aLine_198 (fun σ_44 eσ_44 => ?_)
          obtain ⟨eσ_44_a, eσ_44_b, eσ_44_c, eσ_44_d, eσ_44_e, eσ_44_f, eσ_44_g, eσ_44_h, eσ_44_i, eσ_44_j⟩ := eσ_44
          have eσ_44_a : vw 0 σ_44 = pk0 (ar9 x L μ 5 (na9 5) 0 0 (txE x L e)).1 (EF μ 5 (txV x L (txE x L e)) (txV x L (txE x L (txE x L e))) (txV x L (txE x L (txE x L (txE x L e))))) μ := eσ_44_a
          have eσ_44_b : σ_44 5004 = (nI L) := eσ_44_b
          have eσ_44_c : σ_44 5005 = (nI (kr (txK x L (ar9 x L μ 5 (na9 5) 0 0 (txE x L e)).2))) := eσ_44_c
          have eσ_44_d : σ_44 5006 = (nI (txS x L (ar9 x L μ 5 (na9 5) 0 0 (txE x L e)).2)) := eσ_44_d
          have eσ_44_e : σ_44 5007 = (nI (txE x L (ar9 x L μ 5 (na9 5) 0 0 (txE x L e)).2)) := eσ_44_e
          have eσ_44_f : σ_44 5009 = (nI ((ar9 x L μ 5 (na9 5) 0 0 (txE x L e)).1)) := eσ_44_f
          have eσ_44_g : σ_44 4004 = (if (ar9 x L μ 5 (na9 5) 0 0 (txE x L e)).1 = 0 then p0 else nI (txS x L (ar9 x L μ 5 (na9 5) 0 0 (txE x L e)).2)) := eσ_44_g
          have eσ_44_h : TX 5600 σ_44 L x := eσ_44_h
          have eσ_44_i : VL σ_44 x L (ar9 x L μ 5 (na9 5) 0 0 (txE x L e)).2 := eσ_44_i
          have eσ_44_j : ∀ a, (464 ≤ a ∧ a ≠ 5009 ∧ a ≠ 4004 ∧ (a < 5005 ∨ 5008 < a) ∨ a = 10) → σ_44 a = σ_28 a := eσ_44_j
          have ht5004_σ_44 : σ_44 5004 = (nI L) := eσ_44_b
          have ht5005_σ_44 : σ_44 5005 = (nI (kr (txK x L (ar9 x L μ 5 (na9 5) 0 0 (txE x L e)).2))) := eσ_44_c
          have ht5006_σ_44 : σ_44 5006 = (nI (txS x L (ar9 x L μ 5 (na9 5) 0 0 (txE x L e)).2)) := eσ_44_d
          have ht5007_σ_44 : σ_44 5007 = (nI (txE x L (ar9 x L μ 5 (na9 5) 0 0 (txE x L e)).2)) := eσ_44_e
          have ht5009_σ_44 : σ_44 5009 = (nI ((ar9 x L μ 5 (na9 5) 0 0 (txE x L e)).1)) := eσ_44_f
          have ht4004_σ_44 : σ_44 4004 = (if (ar9 x L μ 5 (na9 5) 0 0 (txE x L e)).1 = 0 then p0 else nI (txS x L (ar9 x L μ 5 (na9 5) 0 0 (txE x L e)).2)) := eσ_44_g
          have hcTX_σ_44 : TX 5600 σ_44 L x := eσ_44_h
          have hcVL_σ_44 : VL σ_44 x L (ar9 x L μ 5 (na9 5) 0 0 (txE x L e)).2 := eσ_44_i
          have hcFR_σ_44 : ∀ a, (464 ≤ a ∧ a ≠ 5010 ∧ a ≠ 5009 ∧ a ≠ 4004 ∧ (a < 5005 ∨ 5008 < a) ∨ a = 10) → σ_44 a = σ a := by intro a ha; exact Eq.trans (b := σ_28 a) (eσ_44_j a (by first | omega | (simp only [vb] at *; omega))) (hcFR_σ_28 a ha)
          have hcTD_σ_44 : TD σ_44 (b5 || decide (k = 5)) (b6 || decide (k = 6)) := by exact TD.fr hcTD_σ_28 (eσ_44_j _ (by first | omega | (simp only [vb] at *; omega)))
          obtain ⟨μ_45, eμ_45⟩ : ∃ μ_45 : Nat → Int32, μ_45 = pk0 (ar9 x L μ 5 (na9 5) 0 0 (txE x L e)).1 (EF μ 5 (txV x L (txE x L e)) (txV x L (txE x L (txE x L e))) (txV x L (txE x L (txE x L (txE x L e))))) μ := ⟨_, rfl⟩
          have hvσ_44 : vw 0 σ_44 = μ_45 := by rw [eμ_45]; exact eσ_44_a
          refine g_ifB_eq h dX12_aLine_201 (fun c201 => ?_) (fun c201 => ?_)
          ·
            have hq9 : (ar9 x L μ 5 (na9 5) 0 0 (txE x L e)).1 ≠ 0 := of_decide_eq_false c201
            have hR := ln_f (b5 := b5) (b6 := b6) hK1 hW1 hnt hc61 hq9
            refine g_iconst h dX12_aLine_215 (by decide) ?_
            exact g_zret h hQ dX12_aLine_216 (show narrow .boolean (.int (b2i false)) = .int (b2i false) from narrow_b2i _) (congrArg (fun z => some (Value.int (b2i z))) (show (decide ((ln9 x L (0, e, μ, b5, b6)).1 = 0)) = false by rw [hR]; first | rfl | exact decide_eq_true rfl | exact decide_eq_false hq9 | exact decide_eq_false (tff_0 (by decide)) | exact c115 | exact c135 | exact c165 | exact c185 | exact c208 | exact c231 | exact c251 | decide)) (by exact ⟨(by first | (rw [hR]; exact (hvσ_44).trans (by simp only [eμ_45]; exact if_neg hq9)) | (rw [hR]; exact (hvσ_44).trans (by simp only [eμ_45]; exact if_pos hq9)) | (rw [hR]; exact hvσ_44) | fail), (by first | exact ht5004_σ_44 | assumption | fail), (by rw [hR]; exact ht5005_σ_44), (by rw [hR]; exact ht5006_σ_44), (by rw [hR]; exact ht5007_σ_44), (by rw [hR]; exact ht5009_σ_44), (by first | (rw [hR]; exact ht4004_σ_44) | (rw [hR]; exact (ht4004_σ_44).trans (if_neg (by first | exact tff_0 (by decide) | decide)).symm) | fail), (by first | exact hcTX_σ_44 | assumption | fail), (by rw [hR]; exact hcVL_σ_44), (by first | (intro _; rw [hR]; exact hcTD_σ_44) | (intro z; rw [hR] at z; exact absurd z hq9) | (intro z; rw [hR] at z; exact absurd z (by first | exact tff_0 (by decide) | decide)) | fail), (by exact hcFR_σ_44)⟩)
          ·
            have hq9 : (ar9 x L μ 5 (na9 5) 0 0 (txE x L e)).1 = 0 := of_decide_eq_true c201
            have hR := ln_y (b5 := b5) (b6 := b6) hK1 hW1 hnt hc61 hq9
            have hab := (ar9_b (x := x) (L := L) (μ := μ) (k := 5) (na9 5) 0 0 (txE x L e) hb.2.2).2.2
            have ht5009_σ_44 : σ_44 5009 = (nI 0) := by rw [ht5009_σ_44, hq9]
            have ht4004_σ_44 : σ_44 4004 = p0 := by rw [ht4004_σ_44, if_pos hq9]
            refine g_aload_n h dX12_aLine_204 0 rfl ?_
            refine g_cvi (rest := []) h (r_closes hW ((ar9 x L μ 5 (na9 5) 0 0 (txE x L e)).2) L x p0 (by first | omega | assumption | fail) (by first | omega | assumption | fail) (by first | exact ht5004_σ_44 | assumption | fail) (by first | exact ht5005_σ_44 | assumption | fail) (by first | exact ht5006_σ_44 | assumption | fail) (by first | exact ht5007_σ_44 | assumption | fail) (by first | exact ht5009_σ_44 | assumption | fail) (by first | exact ht4004_σ_44 | assumption | fail) (by first | exact hcTX_σ_44 | assumption | fail) (by first | exact hcVL_σ_44 | assumption | fail)) lX12_closes mX12_253 (Nat.lt_of_lt_of_le (by decide) (Nat.le_refl _)) (by decide) sc_0 rfl rfl rfl rfl dX12_aLine_205 (fun σ_46 eσ_46 => ?_)
            obtain ⟨eσ_46_a, eσ_46_b, eσ_46_c, eσ_46_d, eσ_46_e, eσ_46_f, eσ_46_g, eσ_46_h, eσ_46_i⟩ := eσ_46
            have eσ_46_a : σ_46 5004 = (nI L) := eσ_46_a
            have eσ_46_b : σ_46 5005 = (nI (kr (txK x L (cl9 x L ((ar9 x L μ 5 (na9 5) 0 0 (txE x L e)).2))))) := eσ_46_b
            have eσ_46_c : σ_46 5006 = (nI (txS x L (cl9 x L ((ar9 x L μ 5 (na9 5) 0 0 (txE x L e)).2)))) := eσ_46_c
            have eσ_46_d : σ_46 5007 = (nI (txE x L (cl9 x L ((ar9 x L μ 5 (na9 5) 0 0 (txE x L e)).2)))) := eσ_46_d
            have eσ_46_e : σ_46 5009 = (nI (tf9 (txK x L ((ar9 x L μ 5 (na9 5) 0 0 (txE x L e)).2)) 3)) := eσ_46_e
            have eσ_46_f : σ_46 4004 = (if tf9 (txK x L ((ar9 x L μ 5 (na9 5) 0 0 (txE x L e)).2)) 3 = 0 then p0 else nI (txS x L (cl9 x L ((ar9 x L μ 5 (na9 5) 0 0 (txE x L e)).2)))) := eσ_46_f
            have eσ_46_g : TX 5600 σ_46 L x := eσ_46_g
            have eσ_46_h : VL σ_46 x L (cl9 x L ((ar9 x L μ 5 (na9 5) 0 0 (txE x L e)).2)) := eσ_46_h
            have eσ_46_i : ∀ a, (a ≠ 5009 ∧ a ≠ 4004 ∧ (a < 5005 ∨ 5008 < a)) → σ_46 a = σ_44 a := eσ_46_i
            have ht5004_σ_46 : σ_46 5004 = (nI L) := eσ_46_a
            have ht5005_σ_46 : σ_46 5005 = (nI (kr (txK x L (cl9 x L ((ar9 x L μ 5 (na9 5) 0 0 (txE x L e)).2))))) := eσ_46_b
            have ht5006_σ_46 : σ_46 5006 = (nI (txS x L (cl9 x L ((ar9 x L μ 5 (na9 5) 0 0 (txE x L e)).2)))) := eσ_46_c
            have ht5007_σ_46 : σ_46 5007 = (nI (txE x L (cl9 x L ((ar9 x L μ 5 (na9 5) 0 0 (txE x L e)).2)))) := eσ_46_d
            have ht5009_σ_46 : σ_46 5009 = (nI (tf9 (txK x L ((ar9 x L μ 5 (na9 5) 0 0 (txE x L e)).2)) 3)) := eσ_46_e
            have ht4004_σ_46 : σ_46 4004 = (if tf9 (txK x L ((ar9 x L μ 5 (na9 5) 0 0 (txE x L e)).2)) 3 = 0 then p0 else nI (txS x L (cl9 x L ((ar9 x L μ 5 (na9 5) 0 0 (txE x L e)).2)))) := eσ_46_f
            have hcTX_σ_46 : TX 5600 σ_46 L x := eσ_46_g
            have hcVL_σ_46 : VL σ_46 x L (cl9 x L ((ar9 x L μ 5 (na9 5) 0 0 (txE x L e)).2)) := eσ_46_h
            have hcFR_σ_46 : ∀ a, (464 ≤ a ∧ a ≠ 5010 ∧ a ≠ 5009 ∧ a ≠ 4004 ∧ (a < 5005 ∨ 5008 < a) ∨ a = 10) → σ_46 a = σ a := by intro a ha; exact Eq.trans (b := σ_44 a) (eσ_46_i a (by first | omega | (simp only [vb] at *; omega))) (hcFR_σ_44 a ha)
            have hcTD_σ_46 : TD σ_46 (b5 || decide (k = 5)) (b6 || decide (k = 6)) := by exact TD.fr hcTD_σ_44 (eσ_46_i _ (by first | omega | (simp only [vb] at *; omega)))
            have hvσ_46 : vw 0 σ_46 = μ_45 := by rw [vw_fr (σ := σ_44) (fun j _ _ => eσ_46_i _ (by first | omega | (simp only [vb] at *; omega)))]; first | exact hvσ_44 | assumption
            refine g_ifB_eq h dX12_aLine_208 (fun c208 => ?_) (fun c208 => ?_)
            ·
              refine g_iconst h dX12_aLine_215 (by decide) ?_
              exact g_zret h hQ dX12_aLine_216 (show narrow .boolean (.int (b2i false)) = .int (b2i false) from narrow_b2i _) (congrArg (fun z => some (Value.int (b2i z))) (show (decide ((ln9 x L (0, e, μ, b5, b6)).1 = 0)) = false by rw [hR]; first | rfl | exact decide_eq_true rfl | exact decide_eq_false hq9 | exact decide_eq_false (tff_0 (by decide)) | exact c115 | exact c135 | exact c165 | exact c185 | exact c208 | exact c231 | exact c251 | decide)) (by exact ⟨(by first | (rw [hR]; exact (hvσ_46).trans (by simp only [eμ_45]; exact if_neg hq9)) | (rw [hR]; exact (hvσ_46).trans (by simp only [eμ_45]; exact if_pos hq9)) | (rw [hR]; exact hvσ_46) | fail), (by first | exact ht5004_σ_46 | assumption | fail), (by rw [hR]; exact ht5005_σ_46), (by rw [hR]; exact ht5006_σ_46), (by rw [hR]; exact ht5007_σ_46), (by rw [hR]; exact ht5009_σ_46), (by first | (rw [hR]; exact ht4004_σ_46) | (rw [hR]; exact (ht4004_σ_46).trans (if_neg (by first | exact tff_0 (by decide) | decide)).symm) | fail), (by first | exact hcTX_σ_46 | assumption | fail), (by rw [hR]; exact hcVL_σ_46), (by first | (intro _; rw [hR]; exact hcTD_σ_46) | (intro z; rw [hR] at z; exact absurd z hq9) | (intro z; rw [hR] at z; exact absurd z (by first | exact tff_0 (by decide) | decide)) | fail), (by exact hcFR_σ_46)⟩)
            ·
              refine g_iconst h dX12_aLine_211 (by decide) ?_
              refine g_goto h dX12_aLine_212 ?_
              exact g_zret h hQ dX12_aLine_216 (show narrow .boolean (.int (b2i true)) = .int (b2i true) from narrow_b2i _) (congrArg (fun z => some (Value.int (b2i z))) (show (decide ((ln9 x L (0, e, μ, b5, b6)).1 = 0)) = true by rw [hR]; first | rfl | exact decide_eq_true rfl | exact decide_eq_false hq9 | exact decide_eq_false (tff_0 (by decide)) | exact c115 | exact c135 | exact c165 | exact c185 | exact c208 | exact c231 | exact c251 | decide)) (by exact ⟨(by first | (rw [hR]; exact (hvσ_46).trans (by simp only [eμ_45]; exact if_neg hq9)) | (rw [hR]; exact (hvσ_46).trans (by simp only [eμ_45]; exact if_pos hq9)) | (rw [hR]; exact hvσ_46) | fail), (by first | exact ht5004_σ_46 | assumption | fail), (by rw [hR]; exact ht5005_σ_46), (by rw [hR]; exact ht5006_σ_46), (by rw [hR]; exact ht5007_σ_46), (by rw [hR]; exact ht5009_σ_46), (by first | (rw [hR]; exact ht4004_σ_46) | (rw [hR]; exact (ht4004_σ_46).trans (if_neg (by first | exact tff_0 (by decide) | decide)).symm) | fail), (by first | exact hcTX_σ_46 | assumption | fail), (by rw [hR]; exact hcVL_σ_46), (by first | (intro _; rw [hR]; exact hcTD_σ_46) | (intro z; rw [hR] at z; exact absurd z hq9) | (intro z; rw [hR] at z; exact absurd z (by first | exact tff_0 (by decide) | decide)) | fail), (by exact hcFR_σ_46)⟩)
        ·
          refine g_tsw (off := 156) (tgt := 217) h dX12_aLine_61 (nI 6) (by rw [hc61]) (by decide) (by decide) (by decide +kernel) (by decide) ?_
          refine g_aload_n h dX12_aLine_217 0 rfl ?_
          refine g_iconst h dX12_aLine_218 (by decide) ?_
          refine g_bipush h dX12_aLine_219 (by decide) ?_
          refine g_cvi (rest := []) h (r_aTime hW 4 99 6 (txE x L e) L x p0 μ (by first | omega | assumption | fail) (by first | omega | assumption | fail) (by first | exact hvσ_28 | assumption | fail) (by assumption) (by omega) (by first | exact ht5004_σ_28 | assumption | fail) (by first | exact ht5005_σ_28 | assumption | fail) (by first | exact ht5006_σ_28 | assumption | fail) (by first | exact ht5007_σ_28 | assumption | fail) (by first | exact ht5009_σ_28 | assumption | fail) (by first | exact ht4004_σ_28 | assumption | fail) (by first | exact hcTX_σ_28 | assumption | fail) (by first | exact hcVL_σ_28 | assumption | fail)) lX12_aTime mX12_266 (Nat.lt_of_lt_of_le (by decide) (Nat.le_refl _)) (by decide) sc_0 rfl rfl rfl rfl dX12_aLine_221 (fun σ_47 eσ_47 => ?_)
          obtain ⟨eσ_47_a, eσ_47_b, eσ_47_c, eσ_47_d, eσ_47_e, eσ_47_f, eσ_47_g, eσ_47_h, eσ_47_i, eσ_47_j⟩ := eσ_47
          have eσ_47_a : vw 0 σ_47 = pk0 (ar9 x L μ 6 (na9 6) 0 0 (txE x L e)).1 (EF μ 6 (txV x L (txE x L e)) (txV x L (txE x L (txE x L e))) (txV x L (txE x L (txE x L (txE x L e))))) μ := eσ_47_a
          have eσ_47_b : σ_47 5004 = (nI L) := eσ_47_b
          have eσ_47_c : σ_47 5005 = (nI (kr (txK x L (ar9 x L μ 6 (na9 6) 0 0 (txE x L e)).2))) := eσ_47_c
          have eσ_47_d : σ_47 5006 = (nI (txS x L (ar9 x L μ 6 (na9 6) 0 0 (txE x L e)).2)) := eσ_47_d
          have eσ_47_e : σ_47 5007 = (nI (txE x L (ar9 x L μ 6 (na9 6) 0 0 (txE x L e)).2)) := eσ_47_e
          have eσ_47_f : σ_47 5009 = (nI ((ar9 x L μ 6 (na9 6) 0 0 (txE x L e)).1)) := eσ_47_f
          have eσ_47_g : σ_47 4004 = (if (ar9 x L μ 6 (na9 6) 0 0 (txE x L e)).1 = 0 then p0 else nI (txS x L (ar9 x L μ 6 (na9 6) 0 0 (txE x L e)).2)) := eσ_47_g
          have eσ_47_h : TX 5600 σ_47 L x := eσ_47_h
          have eσ_47_i : VL σ_47 x L (ar9 x L μ 6 (na9 6) 0 0 (txE x L e)).2 := eσ_47_i
          have eσ_47_j : ∀ a, (464 ≤ a ∧ a ≠ 5009 ∧ a ≠ 4004 ∧ (a < 5005 ∨ 5008 < a) ∨ a = 10) → σ_47 a = σ_28 a := eσ_47_j
          have ht5004_σ_47 : σ_47 5004 = (nI L) := eσ_47_b
          have ht5005_σ_47 : σ_47 5005 = (nI (kr (txK x L (ar9 x L μ 6 (na9 6) 0 0 (txE x L e)).2))) := eσ_47_c
          have ht5006_σ_47 : σ_47 5006 = (nI (txS x L (ar9 x L μ 6 (na9 6) 0 0 (txE x L e)).2)) := eσ_47_d
          have ht5007_σ_47 : σ_47 5007 = (nI (txE x L (ar9 x L μ 6 (na9 6) 0 0 (txE x L e)).2)) := eσ_47_e
          have ht5009_σ_47 : σ_47 5009 = (nI ((ar9 x L μ 6 (na9 6) 0 0 (txE x L e)).1)) := eσ_47_f
          have ht4004_σ_47 : σ_47 4004 = (if (ar9 x L μ 6 (na9 6) 0 0 (txE x L e)).1 = 0 then p0 else nI (txS x L (ar9 x L μ 6 (na9 6) 0 0 (txE x L e)).2)) := eσ_47_g
          have hcTX_σ_47 : TX 5600 σ_47 L x := eσ_47_h
          have hcVL_σ_47 : VL σ_47 x L (ar9 x L μ 6 (na9 6) 0 0 (txE x L e)).2 := eσ_47_i
          have hcFR_σ_47 : ∀ a, (464 ≤ a ∧ a ≠ 5010 ∧ a ≠ 5009 ∧ a ≠ 4004 ∧ (a < 5005 ∨ 5008 < a) ∨ a = 10) → σ_47 a = σ a := by intro a ha; exact Eq.trans (b := σ_28 a) (eσ_47_j a (by first | omega | (simp only [vb] at *; omega))) (hcFR_σ_28 a ha)
          have hcTD_σ_47 : TD σ_47 (b5 || decide (k = 5)) (b6 || decide (k = 6)) := by exact TD.fr hcTD_σ_28 (eσ_47_j _ (by first | omega | (simp only [vb] at *; omega)))
          obtain ⟨μ_48, eμ_48⟩ : ∃ μ_48 : Nat → Int32, μ_48 = pk0 (ar9 x L μ 6 (na9 6) 0 0 (txE x L e)).1 (EF μ 6 (txV x L (txE x L e)) (txV x L (txE x L (txE x L e))) (txV x L (txE x L (txE x L (txE x L e))))) μ := ⟨_, rfl⟩
          have hvσ_47 : vw 0 σ_47 = μ_48 := by rw [eμ_48]; exact eσ_47_a
          refine g_ifB_eq h dX12_aLine_224 (fun c224 => ?_) (fun c224 => ?_)
          ·
            have hq9 : (ar9 x L μ 6 (na9 6) 0 0 (txE x L e)).1 ≠ 0 := of_decide_eq_false c224
            have hR := ln_f (b5 := b5) (b6 := b6) hK1 hW1 hnt hc61 hq9
            refine g_iconst h dX12_aLine_238 (by decide) ?_
            exact g_zret h hQ dX12_aLine_239 (show narrow .boolean (.int (b2i false)) = .int (b2i false) from narrow_b2i _) (congrArg (fun z => some (Value.int (b2i z))) (show (decide ((ln9 x L (0, e, μ, b5, b6)).1 = 0)) = false by rw [hR]; first | rfl | exact decide_eq_true rfl | exact decide_eq_false hq9 | exact decide_eq_false (tff_0 (by decide)) | exact c115 | exact c135 | exact c165 | exact c185 | exact c208 | exact c231 | exact c251 | decide)) (by exact ⟨(by first | (rw [hR]; exact (hvσ_47).trans (by simp only [eμ_48]; exact if_neg hq9)) | (rw [hR]; exact (hvσ_47).trans (by simp only [eμ_48]; exact if_pos hq9)) | (rw [hR]; exact hvσ_47) | fail), (by first | exact ht5004_σ_47 | assumption | fail), (by rw [hR]; exact ht5005_σ_47), (by rw [hR]; exact ht5006_σ_47), (by rw [hR]; exact ht5007_σ_47), (by rw [hR]; exact ht5009_σ_47), (by first | (rw [hR]; exact ht4004_σ_47) | (rw [hR]; exact (ht4004_σ_47).trans (if_neg (by first | exact tff_0 (by decide) | decide)).symm) | fail), (by first | exact hcTX_σ_47 | assumption | fail), (by rw [hR]; exact hcVL_σ_47), (by first | (intro _; rw [hR]; exact hcTD_σ_47) | (intro z; rw [hR] at z; exact absurd z hq9) | (intro z; rw [hR] at z; exact absurd z (by first | exact tff_0 (by decide) | decide)) | fail), (by exact hcFR_σ_47)⟩)
          ·
            have hq9 : (ar9 x L μ 6 (na9 6) 0 0 (txE x L e)).1 = 0 := of_decide_eq_true c224
            have hR := ln_y (b5 := b5) (b6 := b6) hK1 hW1 hnt hc61 hq9
            have hab := (ar9_b (x := x) (L := L) (μ := μ) (k := 6) (na9 6) 0 0 (txE x L e) hb.2.2).2.2
            have ht5009_σ_47 : σ_47 5009 = (nI 0) := by rw [ht5009_σ_47, hq9]
            have ht4004_σ_47 : σ_47 4004 = p0 := by rw [ht4004_σ_47, if_pos hq9]
            refine g_aload_n h dX12_aLine_227 0 rfl ?_
            refine g_cvi (rest := []) h (r_closes hW ((ar9 x L μ 6 (na9 6) 0 0 (txE x L e)).2) L x p0 (by first | omega | assumption | fail) (by first | omega | assumption | fail) (by first | exact ht5004_σ_47 | assumption | fail) (by first | exact ht5005_σ_47 | assumption | fail) (by first | exact ht5006_σ_47 | assumption | fail) (by first | exact ht5007_σ_47 | assumption | fail) (by first | exact ht5009_σ_47 | assumption | fail) (by first | exact ht4004_σ_47 | assumption | fail) (by first | exact hcTX_σ_47 | assumption | fail) (by first | exact hcVL_σ_47 | assumption | fail)) lX12_closes mX12_253 (Nat.lt_of_lt_of_le (by decide) (Nat.le_refl _)) (by decide) sc_0 rfl rfl rfl rfl dX12_aLine_228 (fun σ_49 eσ_49 => ?_)
            obtain ⟨eσ_49_a, eσ_49_b, eσ_49_c, eσ_49_d, eσ_49_e, eσ_49_f, eσ_49_g, eσ_49_h, eσ_49_i⟩ := eσ_49
            have eσ_49_a : σ_49 5004 = (nI L) := eσ_49_a
            have eσ_49_b : σ_49 5005 = (nI (kr (txK x L (cl9 x L ((ar9 x L μ 6 (na9 6) 0 0 (txE x L e)).2))))) := eσ_49_b
            have eσ_49_c : σ_49 5006 = (nI (txS x L (cl9 x L ((ar9 x L μ 6 (na9 6) 0 0 (txE x L e)).2)))) := eσ_49_c
            have eσ_49_d : σ_49 5007 = (nI (txE x L (cl9 x L ((ar9 x L μ 6 (na9 6) 0 0 (txE x L e)).2)))) := eσ_49_d
            have eσ_49_e : σ_49 5009 = (nI (tf9 (txK x L ((ar9 x L μ 6 (na9 6) 0 0 (txE x L e)).2)) 3)) := eσ_49_e
            have eσ_49_f : σ_49 4004 = (if tf9 (txK x L ((ar9 x L μ 6 (na9 6) 0 0 (txE x L e)).2)) 3 = 0 then p0 else nI (txS x L (cl9 x L ((ar9 x L μ 6 (na9 6) 0 0 (txE x L e)).2)))) := eσ_49_f
            have eσ_49_g : TX 5600 σ_49 L x := eσ_49_g
            have eσ_49_h : VL σ_49 x L (cl9 x L ((ar9 x L μ 6 (na9 6) 0 0 (txE x L e)).2)) := eσ_49_h
            have eσ_49_i : ∀ a, (a ≠ 5009 ∧ a ≠ 4004 ∧ (a < 5005 ∨ 5008 < a)) → σ_49 a = σ_47 a := eσ_49_i
            have ht5004_σ_49 : σ_49 5004 = (nI L) := eσ_49_a
            have ht5005_σ_49 : σ_49 5005 = (nI (kr (txK x L (cl9 x L ((ar9 x L μ 6 (na9 6) 0 0 (txE x L e)).2))))) := eσ_49_b
            have ht5006_σ_49 : σ_49 5006 = (nI (txS x L (cl9 x L ((ar9 x L μ 6 (na9 6) 0 0 (txE x L e)).2)))) := eσ_49_c
            have ht5007_σ_49 : σ_49 5007 = (nI (txE x L (cl9 x L ((ar9 x L μ 6 (na9 6) 0 0 (txE x L e)).2)))) := eσ_49_d
            have ht5009_σ_49 : σ_49 5009 = (nI (tf9 (txK x L ((ar9 x L μ 6 (na9 6) 0 0 (txE x L e)).2)) 3)) := eσ_49_e
            have ht4004_σ_49 : σ_49 4004 = (if tf9 (txK x L ((ar9 x L μ 6 (na9 6) 0 0 (txE x L e)).2)) 3 = 0 then p0 else nI (txS x L (cl9 x L ((ar9 x L μ 6 (na9 6) 0 0 (txE x L e)).2)))) := eσ_49_f
            have hcTX_σ_49 : TX 5600 σ_49 L x := eσ_49_g
            have hcVL_σ_49 : VL σ_49 x L (cl9 x L ((ar9 x L μ 6 (na9 6) 0 0 (txE x L e)).2)) := eσ_49_h
            have hcFR_σ_49 : ∀ a, (464 ≤ a ∧ a ≠ 5010 ∧ a ≠ 5009 ∧ a ≠ 4004 ∧ (a < 5005 ∨ 5008 < a) ∨ a = 10) → σ_49 a = σ a := by intro a ha; exact Eq.trans (b := σ_47 a) (eσ_49_i a (by first | omega | (simp only [vb] at *; omega))) (hcFR_σ_47 a ha)
            have hcTD_σ_49 : TD σ_49 (b5 || decide (k = 5)) (b6 || decide (k = 6)) := by exact TD.fr hcTD_σ_47 (eσ_49_i _ (by first | omega | (simp only [vb] at *; omega)))
            have hvσ_49 : vw 0 σ_49 = μ_48 := by rw [vw_fr (σ := σ_47) (fun j _ _ => eσ_49_i _ (by first | omega | (simp only [vb] at *; omega)))]; first | exact hvσ_47 | assumption
            refine g_ifB_eq h dX12_aLine_231 (fun c231 => ?_) (fun c231 => ?_)
            ·
              refine g_iconst h dX12_aLine_238 (by decide) ?_
              exact g_zret h hQ dX12_aLine_239 (show narrow .boolean (.int (b2i false)) = .int (b2i false) from narrow_b2i _) (congrArg (fun z => some (Value.int (b2i z))) (show (decide ((ln9 x L (0, e, μ, b5, b6)).1 = 0)) = false by rw [hR]; first | rfl | exact decide_eq_true rfl | exact decide_eq_false hq9 | exact decide_eq_false (tff_0 (by decide)) | exact c115 | exact c135 | exact c165 | exact c185 | exact c208 | exact c231 | exact c251 | decide)) (by exact ⟨(by first | (rw [hR]; exact (hvσ_49).trans (by simp only [eμ_48]; exact if_neg hq9)) | (rw [hR]; exact (hvσ_49).trans (by simp only [eμ_48]; exact if_pos hq9)) | (rw [hR]; exact hvσ_49) | fail), (by first | exact ht5004_σ_49 | assumption | fail), (by rw [hR]; exact ht5005_σ_49), (by rw [hR]; exact ht5006_σ_49), (by rw [hR]; exact ht5007_σ_49), (by rw [hR]; exact ht5009_σ_49), (by first | (rw [hR]; exact ht4004_σ_49) | (rw [hR]; exact (ht4004_σ_49).trans (if_neg (by first | exact tff_0 (by decide) | decide)).symm) | fail), (by first | exact hcTX_σ_49 | assumption | fail), (by rw [hR]; exact hcVL_σ_49), (by first | (intro _; rw [hR]; exact hcTD_σ_49) | (intro z; rw [hR] at z; exact absurd z hq9) | (intro z; rw [hR] at z; exact absurd z (by first | exact tff_0 (by decide) | decide)) | fail), (by exact hcFR_σ_49)⟩)
            ·
              refine g_iconst h dX12_aLine_234 (by decide) ?_
              refine g_goto h dX12_aLine_235 ?_
              exact g_zret h hQ dX12_aLine_239 (show narrow .boolean (.int (b2i true)) = .int (b2i true) from narrow_b2i _) (congrArg (fun z => some (Value.int (b2i z))) (show (decide ((ln9 x L (0, e, μ, b5, b6)).1 = 0)) = true by rw [hR]; first | rfl | exact decide_eq_true rfl | exact decide_eq_false hq9 | exact decide_eq_false (tff_0 (by decide)) | exact c115 | exact c135 | exact c165 | exact c185 | exact c208 | exact c231 | exact c251 | decide)) (by exact ⟨(by first | (rw [hR]; exact (hvσ_49).trans (by simp only [eμ_48]; exact if_neg hq9)) | (rw [hR]; exact (hvσ_49).trans (by simp only [eμ_48]; exact if_pos hq9)) | (rw [hR]; exact hvσ_49) | fail), (by first | exact ht5004_σ_49 | assumption | fail), (by rw [hR]; exact ht5005_σ_49), (by rw [hR]; exact ht5006_σ_49), (by rw [hR]; exact ht5007_σ_49), (by rw [hR]; exact ht5009_σ_49), (by first | (rw [hR]; exact ht4004_σ_49) | (rw [hR]; exact (ht4004_σ_49).trans (if_neg (by first | exact tff_0 (by decide) | decide)).symm) | fail), (by first | exact hcTX_σ_49 | assumption | fail), (by rw [hR]; exact hcVL_σ_49), (by first | (intro _; rw [hR]; exact hcTD_σ_49) | (intro z; rw [hR] at z; exact absurd z hq9) | (intro z; rw [hR] at z; exact absurd z (by first | exact tff_0 (by decide) | decide)) | fail), (by exact hcFR_σ_49)⟩)
        ·
          refine g_tswOut (tgt := 240) h dX12_aLine_61 (by rw [hc61]; decide) (by decide) ?_
          refine g_aload_n h dX12_aLine_240 0 rfl ?_
          refine g_cvi (rest := []) h (r_aJam hW (txE x L e) L x p0 μ (by first | omega | assumption | fail) (by first | omega | assumption | fail) (by first | exact hvσ_28 | assumption | fail) (by assumption) (by first | exact ht5004_σ_28 | assumption | fail) (by first | exact ht5005_σ_28 | assumption | fail) (by first | exact ht5006_σ_28 | assumption | fail) (by first | exact ht5007_σ_28 | assumption | fail) (by first | exact ht5009_σ_28 | assumption | fail) (by first | exact ht4004_σ_28 | assumption | fail) (by first | exact hcTX_σ_28 | assumption | fail) (by first | exact hcVL_σ_28 | assumption | fail)) lX12_aJam mX12_269 (Nat.lt_of_lt_of_le (by decide) (Nat.le_refl _)) (by decide) sc_0 rfl rfl rfl rfl dX12_aLine_241 (fun σ_50 eσ_50 => ?_)
          obtain ⟨eσ_50_a, eσ_50_b, eσ_50_c, eσ_50_d, eσ_50_e, eσ_50_f, eσ_50_g, eσ_50_h, eσ_50_i, eσ_50_j⟩ := eσ_50
          have eσ_50_a : vw 0 σ_50 = pk0 (ar9 x L μ 7 (na9 7) 0 0 (txE x L e)).1 (EF μ 7 (txV x L (txE x L e)) (txV x L (txE x L (txE x L e))) (txV x L (txE x L (txE x L (txE x L e))))) μ := eσ_50_a
          have eσ_50_b : σ_50 5004 = (nI L) := eσ_50_b
          have eσ_50_c : σ_50 5005 = (nI (kr (txK x L (ar9 x L μ 7 (na9 7) 0 0 (txE x L e)).2))) := eσ_50_c
          have eσ_50_d : σ_50 5006 = (nI (txS x L (ar9 x L μ 7 (na9 7) 0 0 (txE x L e)).2)) := eσ_50_d
          have eσ_50_e : σ_50 5007 = (nI (txE x L (ar9 x L μ 7 (na9 7) 0 0 (txE x L e)).2)) := eσ_50_e
          have eσ_50_f : σ_50 5009 = (nI ((ar9 x L μ 7 (na9 7) 0 0 (txE x L e)).1)) := eσ_50_f
          have eσ_50_g : σ_50 4004 = (if (ar9 x L μ 7 (na9 7) 0 0 (txE x L e)).1 = 0 then p0 else nI (txS x L (ar9 x L μ 7 (na9 7) 0 0 (txE x L e)).2)) := eσ_50_g
          have eσ_50_h : TX 5600 σ_50 L x := eσ_50_h
          have eσ_50_i : VL σ_50 x L (ar9 x L μ 7 (na9 7) 0 0 (txE x L e)).2 := eσ_50_i
          have eσ_50_j : ∀ a, (464 ≤ a ∧ a ≠ 5009 ∧ a ≠ 4004 ∧ (a < 5005 ∨ 5008 < a) ∨ a = 10) → σ_50 a = σ_28 a := eσ_50_j
          have ht5004_σ_50 : σ_50 5004 = (nI L) := eσ_50_b
          have ht5005_σ_50 : σ_50 5005 = (nI (kr (txK x L (ar9 x L μ 7 (na9 7) 0 0 (txE x L e)).2))) := eσ_50_c
          have ht5006_σ_50 : σ_50 5006 = (nI (txS x L (ar9 x L μ 7 (na9 7) 0 0 (txE x L e)).2)) := eσ_50_d
          have ht5007_σ_50 : σ_50 5007 = (nI (txE x L (ar9 x L μ 7 (na9 7) 0 0 (txE x L e)).2)) := eσ_50_e
          have ht5009_σ_50 : σ_50 5009 = (nI ((ar9 x L μ 7 (na9 7) 0 0 (txE x L e)).1)) := eσ_50_f
          have ht4004_σ_50 : σ_50 4004 = (if (ar9 x L μ 7 (na9 7) 0 0 (txE x L e)).1 = 0 then p0 else nI (txS x L (ar9 x L μ 7 (na9 7) 0 0 (txE x L e)).2)) := eσ_50_g
          have hcTX_σ_50 : TX 5600 σ_50 L x := eσ_50_h
          have hcVL_σ_50 : VL σ_50 x L (ar9 x L μ 7 (na9 7) 0 0 (txE x L e)).2 := eσ_50_i
          have hcFR_σ_50 : ∀ a, (464 ≤ a ∧ a ≠ 5010 ∧ a ≠ 5009 ∧ a ≠ 4004 ∧ (a < 5005 ∨ 5008 < a) ∨ a = 10) → σ_50 a = σ a := by intro a ha; exact Eq.trans (b := σ_28 a) (eσ_50_j a (by first | omega | (simp only [vb] at *; omega))) (hcFR_σ_28 a ha)
          have hcTD_σ_50 : TD σ_50 (b5 || decide (k = 5)) (b6 || decide (k = 6)) := by exact TD.fr hcTD_σ_28 (eσ_50_j _ (by first | omega | (simp only [vb] at *; omega)))
          obtain ⟨μ_51, eμ_51⟩ : ∃ μ_51 : Nat → Int32, μ_51 = pk0 (ar9 x L μ 7 (na9 7) 0 0 (txE x L e)).1 (EF μ 7 (txV x L (txE x L e)) (txV x L (txE x L (txE x L e))) (txV x L (txE x L (txE x L (txE x L e))))) μ := ⟨_, rfl⟩
          have hvσ_50 : vw 0 σ_50 = μ_51 := by rw [eμ_51]; exact eσ_50_a
          refine g_ifB_eq h dX12_aLine_244 (fun c244 => ?_) (fun c244 => ?_)
          ·
            have hq9 : (ar9 x L μ 7 (na9 7) 0 0 (txE x L e)).1 ≠ 0 := of_decide_eq_false c244
            have hR := ln_f (b5 := b5) (b6 := b6) hK1 hW1 hnt hc61 hq9
            refine g_iconst h dX12_aLine_258 (by decide) ?_
            exact g_zret h hQ dX12_aLine_259 (show narrow .boolean (.int (b2i false)) = .int (b2i false) from narrow_b2i _) (congrArg (fun z => some (Value.int (b2i z))) (show (decide ((ln9 x L (0, e, μ, b5, b6)).1 = 0)) = false by rw [hR]; first | rfl | exact decide_eq_true rfl | exact decide_eq_false hq9 | exact decide_eq_false (tff_0 (by decide)) | exact c115 | exact c135 | exact c165 | exact c185 | exact c208 | exact c231 | exact c251 | decide)) (by exact ⟨(by first | (rw [hR]; exact (hvσ_50).trans (by simp only [eμ_51]; exact if_neg hq9)) | (rw [hR]; exact (hvσ_50).trans (by simp only [eμ_51]; exact if_pos hq9)) | (rw [hR]; exact hvσ_50) | fail), (by first | exact ht5004_σ_50 | assumption | fail), (by rw [hR]; exact ht5005_σ_50), (by rw [hR]; exact ht5006_σ_50), (by rw [hR]; exact ht5007_σ_50), (by rw [hR]; exact ht5009_σ_50), (by first | (rw [hR]; exact ht4004_σ_50) | (rw [hR]; exact (ht4004_σ_50).trans (if_neg (by first | exact tff_0 (by decide) | decide)).symm) | fail), (by first | exact hcTX_σ_50 | assumption | fail), (by rw [hR]; exact hcVL_σ_50), (by first | (intro _; rw [hR]; exact hcTD_σ_50) | (intro z; rw [hR] at z; exact absurd z hq9) | (intro z; rw [hR] at z; exact absurd z (by first | exact tff_0 (by decide) | decide)) | fail), (by exact hcFR_σ_50)⟩)
          ·
            have hq9 : (ar9 x L μ 7 (na9 7) 0 0 (txE x L e)).1 = 0 := of_decide_eq_true c244
            have hR := ln_y (b5 := b5) (b6 := b6) hK1 hW1 hnt hc61 hq9
            have hab := (ar9_b (x := x) (L := L) (μ := μ) (k := 7) (na9 7) 0 0 (txE x L e) hb.2.2).2.2
            have ht5009_σ_50 : σ_50 5009 = (nI 0) := by rw [ht5009_σ_50, hq9]
            have ht4004_σ_50 : σ_50 4004 = p0 := by rw [ht4004_σ_50, if_pos hq9]
            refine g_aload_n h dX12_aLine_247 0 rfl ?_
            refine g_cvi (rest := []) h (r_closes hW ((ar9 x L μ 7 (na9 7) 0 0 (txE x L e)).2) L x p0 (by first | omega | assumption | fail) (by first | omega | assumption | fail) (by first | exact ht5004_σ_50 | assumption | fail) (by first | exact ht5005_σ_50 | assumption | fail) (by first | exact ht5006_σ_50 | assumption | fail) (by first | exact ht5007_σ_50 | assumption | fail) (by first | exact ht5009_σ_50 | assumption | fail) (by first | exact ht4004_σ_50 | assumption | fail) (by first | exact hcTX_σ_50 | assumption | fail) (by first | exact hcVL_σ_50 | assumption | fail)) lX12_closes mX12_253 (Nat.lt_of_lt_of_le (by decide) (Nat.le_refl _)) (by decide) sc_0 rfl rfl rfl rfl dX12_aLine_248 (fun σ_52 eσ_52 => ?_)
            obtain ⟨eσ_52_a, eσ_52_b, eσ_52_c, eσ_52_d, eσ_52_e, eσ_52_f, eσ_52_g, eσ_52_h, eσ_52_i⟩ := eσ_52
            have eσ_52_a : σ_52 5004 = (nI L) := eσ_52_a
            have eσ_52_b : σ_52 5005 = (nI (kr (txK x L (cl9 x L ((ar9 x L μ 7 (na9 7) 0 0 (txE x L e)).2))))) := eσ_52_b
            have eσ_52_c : σ_52 5006 = (nI (txS x L (cl9 x L ((ar9 x L μ 7 (na9 7) 0 0 (txE x L e)).2)))) := eσ_52_c
            have eσ_52_d : σ_52 5007 = (nI (txE x L (cl9 x L ((ar9 x L μ 7 (na9 7) 0 0 (txE x L e)).2)))) := eσ_52_d
            have eσ_52_e : σ_52 5009 = (nI (tf9 (txK x L ((ar9 x L μ 7 (na9 7) 0 0 (txE x L e)).2)) 3)) := eσ_52_e
            have eσ_52_f : σ_52 4004 = (if tf9 (txK x L ((ar9 x L μ 7 (na9 7) 0 0 (txE x L e)).2)) 3 = 0 then p0 else nI (txS x L (cl9 x L ((ar9 x L μ 7 (na9 7) 0 0 (txE x L e)).2)))) := eσ_52_f
            have eσ_52_g : TX 5600 σ_52 L x := eσ_52_g
            have eσ_52_h : VL σ_52 x L (cl9 x L ((ar9 x L μ 7 (na9 7) 0 0 (txE x L e)).2)) := eσ_52_h
            have eσ_52_i : ∀ a, (a ≠ 5009 ∧ a ≠ 4004 ∧ (a < 5005 ∨ 5008 < a)) → σ_52 a = σ_50 a := eσ_52_i
            have ht5004_σ_52 : σ_52 5004 = (nI L) := eσ_52_a
            have ht5005_σ_52 : σ_52 5005 = (nI (kr (txK x L (cl9 x L ((ar9 x L μ 7 (na9 7) 0 0 (txE x L e)).2))))) := eσ_52_b
            have ht5006_σ_52 : σ_52 5006 = (nI (txS x L (cl9 x L ((ar9 x L μ 7 (na9 7) 0 0 (txE x L e)).2)))) := eσ_52_c
            have ht5007_σ_52 : σ_52 5007 = (nI (txE x L (cl9 x L ((ar9 x L μ 7 (na9 7) 0 0 (txE x L e)).2)))) := eσ_52_d
            have ht5009_σ_52 : σ_52 5009 = (nI (tf9 (txK x L ((ar9 x L μ 7 (na9 7) 0 0 (txE x L e)).2)) 3)) := eσ_52_e
            have ht4004_σ_52 : σ_52 4004 = (if tf9 (txK x L ((ar9 x L μ 7 (na9 7) 0 0 (txE x L e)).2)) 3 = 0 then p0 else nI (txS x L (cl9 x L ((ar9 x L μ 7 (na9 7) 0 0 (txE x L e)).2)))) := eσ_52_f
            have hcTX_σ_52 : TX 5600 σ_52 L x := eσ_52_g
            have hcVL_σ_52 : VL σ_52 x L (cl9 x L ((ar9 x L μ 7 (na9 7) 0 0 (txE x L e)).2)) := eσ_52_h
            have hcFR_σ_52 : ∀ a, (464 ≤ a ∧ a ≠ 5010 ∧ a ≠ 5009 ∧ a ≠ 4004 ∧ (a < 5005 ∨ 5008 < a) ∨ a = 10) → σ_52 a = σ a := by intro a ha; exact Eq.trans (b := σ_50 a) (eσ_52_i a (by first | omega | (simp only [vb] at *; omega))) (hcFR_σ_50 a ha)
            have hcTD_σ_52 : TD σ_52 (b5 || decide (k = 5)) (b6 || decide (k = 6)) := by exact TD.fr hcTD_σ_50 (eσ_52_i _ (by first | omega | (simp only [vb] at *; omega)))
            have hvσ_52 : vw 0 σ_52 = μ_51 := by rw [vw_fr (σ := σ_50) (fun j _ _ => eσ_52_i _ (by first | omega | (simp only [vb] at *; omega)))]; first | exact hvσ_50 | assumption
            refine g_ifB_eq h dX12_aLine_251 (fun c251 => ?_) (fun c251 => ?_)
            ·
              refine g_iconst h dX12_aLine_258 (by decide) ?_
              exact g_zret h hQ dX12_aLine_259 (show narrow .boolean (.int (b2i false)) = .int (b2i false) from narrow_b2i _) (congrArg (fun z => some (Value.int (b2i z))) (show (decide ((ln9 x L (0, e, μ, b5, b6)).1 = 0)) = false by rw [hR]; first | rfl | exact decide_eq_true rfl | exact decide_eq_false hq9 | exact decide_eq_false (tff_0 (by decide)) | exact c115 | exact c135 | exact c165 | exact c185 | exact c208 | exact c231 | exact c251 | decide)) (by exact ⟨(by first | (rw [hR]; exact (hvσ_52).trans (by simp only [eμ_51]; exact if_neg hq9)) | (rw [hR]; exact (hvσ_52).trans (by simp only [eμ_51]; exact if_pos hq9)) | (rw [hR]; exact hvσ_52) | fail), (by first | exact ht5004_σ_52 | assumption | fail), (by rw [hR]; exact ht5005_σ_52), (by rw [hR]; exact ht5006_σ_52), (by rw [hR]; exact ht5007_σ_52), (by rw [hR]; exact ht5009_σ_52), (by first | (rw [hR]; exact ht4004_σ_52) | (rw [hR]; exact (ht4004_σ_52).trans (if_neg (by first | exact tff_0 (by decide) | decide)).symm) | fail), (by first | exact hcTX_σ_52 | assumption | fail), (by rw [hR]; exact hcVL_σ_52), (by first | (intro _; rw [hR]; exact hcTD_σ_52) | (intro z; rw [hR] at z; exact absurd z hq9) | (intro z; rw [hR] at z; exact absurd z (by first | exact tff_0 (by decide) | decide)) | fail), (by exact hcFR_σ_52)⟩)
            ·
              refine g_iconst h dX12_aLine_254 (by decide) ?_
              refine g_goto h dX12_aLine_255 ?_
              exact g_zret h hQ dX12_aLine_259 (show narrow .boolean (.int (b2i true)) = .int (b2i true) from narrow_b2i _) (congrArg (fun z => some (Value.int (b2i z))) (show (decide ((ln9 x L (0, e, μ, b5, b6)).1 = 0)) = true by rw [hR]; first | rfl | exact decide_eq_true rfl | exact decide_eq_false hq9 | exact decide_eq_false (tff_0 (by decide)) | exact c115 | exact c135 | exact c165 | exact c185 | exact c208 | exact c231 | exact c251 | decide)) (by exact ⟨(by first | (rw [hR]; exact (hvσ_52).trans (by simp only [eμ_51]; exact if_neg hq9)) | (rw [hR]; exact (hvσ_52).trans (by simp only [eμ_51]; exact if_pos hq9)) | (rw [hR]; exact hvσ_52) | fail), (by first | exact ht5004_σ_52 | assumption | fail), (by rw [hR]; exact ht5005_σ_52), (by rw [hR]; exact ht5006_σ_52), (by rw [hR]; exact ht5007_σ_52), (by rw [hR]; exact ht5009_σ_52), (by first | (rw [hR]; exact ht4004_σ_52) | (rw [hR]; exact (ht4004_σ_52).trans (if_neg (by first | exact tff_0 (by decide) | decide)).symm) | fail), (by first | exact hcTX_σ_52 | assumption | fail), (by rw [hR]; exact hcVL_σ_52), (by first | (intro _; rw [hR]; exact hcTD_σ_52) | (intro z; rw [hR] at z; exact absurd z hq9) | (intro z; rw [hR] at z; exact absurd z (by first | exact tff_0 (by decide) | decide)) | fail), (by exact hcFR_σ_52)⟩)
      ·
        refine g_aload_n h dX12_aLine_27 0 rfl ?_
        refine g_geti h dX12_aLine_28 gX12_247 sc_0 rfl ?_
        refine g_iload_n h dX12_aLine_31 1 rfl ?_
        refine g_cspi (rest := []) h (r_has hW (σ 5010) k (by omega)) lX12_has mX12_65 (Nat.lt_of_lt_of_le (by decide) (Nat.le_refl _)) (by decide) rfl rfl rfl dX12_aLine_32 ?_
        refine g_ifB_eq h dX12_aLine_35 (fun c35 => ?_) (fun c35 => ?_)
        ·
          have hnt : ¬ told9 b5 b6 k = true := by first | exact td_n hcTD_σ (Or.inl c18) c35 | exact td_n hcTD_σ (Or.inr c24) c35 | exact td_n2 c18 c24
          refine g_aload_n h dX12_aLine_44 0 rfl ?_
          refine g_dup h dX12_aLine_45 rfl ?_
          refine g_geti h dX12_aLine_46 gX12_247 sc_0 rfl ?_
          refine g_iconst h dX12_aLine_49 (by decide) ?_
          refine g_iload_n h dX12_aLine_50 1 rfl ?_
          refine g_ishl h dX12_aLine_51  ?_
          refine g_top (y := bt1 k) rfl ?_
          refine g_ior h dX12_aLine_52  ?_
          refine g_puti h dX12_aLine_53 pX12_247 sc_0 rfl ?_
          refine g_nm (fun σt eσt => ?_)
          have eσt : σt = upd σ 5010 ((σ 5010) ||| (bt1 k)) := eσt
          have ht5004_σt : σt 5004 = (nI L) := by rw [eσt, upd_ne (by first | omega | (simp only [vb] at *; omega))]; first | exact ht5004_σ | assumption
          have ht5005_σt : σt 5005 = (nI (kr (txK x L e))) := by rw [eσt, upd_ne (by first | omega | (simp only [vb] at *; omega))]; first | exact ht5005_σ | assumption
          have ht5006_σt : σt 5006 = (nI (txS x L e)) := by rw [eσt, upd_ne (by first | omega | (simp only [vb] at *; omega))]; first | exact ht5006_σ | assumption
          have ht5007_σt : σt 5007 = (nI (txE x L e)) := by rw [eσt, upd_ne (by first | omega | (simp only [vb] at *; omega))]; first | exact ht5007_σ | assumption
          have ht5009_σt : σt 5009 = (nI 0) := by rw [eσt, upd_ne (by first | omega | (simp only [vb] at *; omega))]; first | exact ht5009_σ | assumption
          have ht4004_σt : σt 4004 = p0 := by rw [eσt, upd_ne (by first | omega | (simp only [vb] at *; omega))]; first | exact ht4004_σ | assumption
          have hcTX_σt : TX 5600 σt L x := by rw [eσt]; exact TX.fr hcTX_σ (fun a ha hb => upd_ne (by first | omega | (simp only [vb] at *; omega)))
          have hcVL_σt : VL σt x L e := by rw [eσt]; exact VL.fr hcVL_σ (upd_ne (by first | omega | (simp only [vb] at *; omega)))
          have hcFR_σt : ∀ a, (464 ≤ a ∧ a ≠ 5010 ∧ a ≠ 5009 ∧ a ≠ 4004 ∧ (a < 5005 ∨ 5008 < a) ∨ a = 10) → σt a = σ a := by intro a ha; exact Eq.trans (b := σ a) (by rw [eσt, upd_ne (by first | omega | (simp only [vb] at *; omega))]) (hcFR_σ a ha)
          have hvσt : vw 0 σt = μ := by rw [eσt, vw_out (by omega)]; first | exact hv | assumption
          have hcTD_σt : TD σt (b5 || decide (k = 5)) (b6 || decide (k = 6)) := td_s hcTD_σ hk8 eσt
          refine g_aload_n h dX12_aLine_56 0 rfl ?_
          refine g_cvv (rest := []) h (r_ahead hW (txE x L e) L x (by first | omega | assumption | fail) (by first | omega | assumption | fail) (by first | exact ht5004_σt | assumption | fail) (by first | exact ht5007_σt | assumption | fail) (by first | exact hcTX_σt | assumption | fail)) lX12_ahead mX12_229 (Nat.lt_of_lt_of_le (by decide) (Nat.le_refl _)) (by decide) sc_0 rfl rfl rfl rfl dX12_aLine_57 (fun σ_53 eσ_53 => ?_)
          obtain ⟨eσ_53_a, eσ_53_b, eσ_53_c, eσ_53_d, eσ_53_e, eσ_53_f, eσ_53_g⟩ := eσ_53
          have eσ_53_a : σ_53 5004 = (nI L) := eσ_53_a
          have eσ_53_b : σ_53 5005 = (nI (kr (txK x L (txE x L e)))) := eσ_53_b
          have eσ_53_c : σ_53 5006 = (nI (txS x L (txE x L e))) := eσ_53_c
          have eσ_53_d : σ_53 5007 = (nI (txE x L (txE x L e))) := eσ_53_d
          have eσ_53_e : TX 5600 σ_53 L x := eσ_53_e
          have eσ_53_f : VL σ_53 x L (txE x L e) := eσ_53_f
          have eσ_53_g : ∀ a, (a < 5005 ∨ 5008 < a) → σ_53 a = σt a := eσ_53_g
          have ht5009_σ_53 : σ_53 5009 = (nI 0) := by rw [eσ_53_g _ (by first | omega | (simp only [vb] at *; omega))]; first | exact ht5009_σt | assumption
          have ht4004_σ_53 : σ_53 4004 = p0 := by rw [eσ_53_g _ (by first | omega | (simp only [vb] at *; omega))]; first | exact ht4004_σt | assumption
          have ht5004_σ_53 : σ_53 5004 = (nI L) := eσ_53_a
          have ht5005_σ_53 : σ_53 5005 = (nI (kr (txK x L (txE x L e)))) := eσ_53_b
          have ht5006_σ_53 : σ_53 5006 = (nI (txS x L (txE x L e))) := eσ_53_c
          have ht5007_σ_53 : σ_53 5007 = (nI (txE x L (txE x L e))) := eσ_53_d
          have hcTX_σ_53 : TX 5600 σ_53 L x := eσ_53_e
          have hcVL_σ_53 : VL σ_53 x L (txE x L e) := eσ_53_f
          have hcFR_σ_53 : ∀ a, (464 ≤ a ∧ a ≠ 5010 ∧ a ≠ 5009 ∧ a ≠ 4004 ∧ (a < 5005 ∨ 5008 < a) ∨ a = 10) → σ_53 a = σ a := by intro a ha; exact Eq.trans (b := σt a) (eσ_53_g a (by first | omega | (simp only [vb] at *; omega))) (hcFR_σt a ha)
          have hcTD_σ_53 : TD σ_53 (b5 || decide (k = 5)) (b6 || decide (k = 6)) := by exact TD.fr hcTD_σt (eσ_53_g _ (by first | omega | (simp only [vb] at *; omega)))
          have hvσ_53 : vw 0 σ_53 = μ := by rw [vw_fr (σ := σt) (fun j _ _ => eσ_53_g _ (by first | omega | (simp only [vb] at *; omega)))]; first | exact hvσt | assumption
          refine g_iload_n h dX12_aLine_60 1 rfl ?_
          rcases (show k = 0 ∨ k = 1 ∨ k = 2 ∨ k = 3 ∨ k = 4 ∨ k = 5 ∨ k = 6 ∨ k = 7 by omega) with hc61 | hc61 | hc61 | hc61 | hc61 | hc61 | hc61 | hc61
          ·
            refine g_tsw (off := 43) (tgt := 104) h dX12_aLine_61 (nI 0) (by rw [hc61]) (by decide) (by decide) (by decide +kernel) (by decide) ?_
            refine g_aload_n h dX12_aLine_104 0 rfl ?_
            refine g_cvi (rest := []) h (r_moreNodes hW (txE x L e) L x p0 μ (by first | omega | assumption | fail) (by first | omega | assumption | fail) (by first | exact hvσ_53 | assumption | fail) (by assumption) (by first | exact ht5004_σ_53 | assumption | fail) (by first | exact ht5005_σ_53 | assumption | fail) (by first | exact ht5006_σ_53 | assumption | fail) (by first | exact ht5007_σ_53 | assumption | fail) (by first | exact ht5009_σ_53 | assumption | fail) (by first | exact ht4004_σ_53 | assumption | fail) (by first | exact hcTX_σ_53 | assumption | fail) (by first | exact hcVL_σ_53 | assumption | fail)) lX12_moreNodes mX12_250 (Nat.lt_of_lt_of_le (by decide) (Nat.le_refl _)) (by decide) sc_0 rfl rfl rfl rfl dX12_aLine_105 (fun σ_54 eσ_54 => ?_)
            obtain ⟨eσ_54_a, eσ_54_b, eσ_54_c, eσ_54_d, eσ_54_e, eσ_54_f, eσ_54_g, eσ_54_h, eσ_54_i, eσ_54_j⟩ := eσ_54
            have eσ_54_a : vw 0 σ_54 = pk0 (ar9 x L μ 0 (na9 0) 0 0 (txE x L e)).1 (EF μ 0 (txV x L (txE x L e)) (txV x L (txE x L (txE x L e))) (txV x L (txE x L (txE x L (txE x L e))))) μ := eσ_54_a
            have eσ_54_b : σ_54 5004 = (nI L) := eσ_54_b
            have eσ_54_c : σ_54 5005 = (nI (kr (txK x L (ar9 x L μ 0 (na9 0) 0 0 (txE x L e)).2))) := eσ_54_c
            have eσ_54_d : σ_54 5006 = (nI (txS x L (ar9 x L μ 0 (na9 0) 0 0 (txE x L e)).2)) := eσ_54_d
            have eσ_54_e : σ_54 5007 = (nI (txE x L (ar9 x L μ 0 (na9 0) 0 0 (txE x L e)).2)) := eσ_54_e
            have eσ_54_f : σ_54 5009 = (nI ((ar9 x L μ 0 (na9 0) 0 0 (txE x L e)).1)) := eσ_54_f
            have eσ_54_g : σ_54 4004 = (if (ar9 x L μ 0 (na9 0) 0 0 (txE x L e)).1 = 0 then p0 else nI (txS x L (ar9 x L μ 0 (na9 0) 0 0 (txE x L e)).2)) := eσ_54_g
            have eσ_54_h : TX 5600 σ_54 L x := eσ_54_h
            have eσ_54_i : VL σ_54 x L (ar9 x L μ 0 (na9 0) 0 0 (txE x L e)).2 := eσ_54_i
            have eσ_54_j : ∀ a, (464 ≤ a ∧ a ≠ 5009 ∧ a ≠ 4004 ∧ (a < 5005 ∨ 5008 < a) ∨ a = 10) → σ_54 a = σ_53 a := eσ_54_j
            have ht5004_σ_54 : σ_54 5004 = (nI L) := eσ_54_b
            have ht5005_σ_54 : σ_54 5005 = (nI (kr (txK x L (ar9 x L μ 0 (na9 0) 0 0 (txE x L e)).2))) := eσ_54_c
            have ht5006_σ_54 : σ_54 5006 = (nI (txS x L (ar9 x L μ 0 (na9 0) 0 0 (txE x L e)).2)) := eσ_54_d
            have ht5007_σ_54 : σ_54 5007 = (nI (txE x L (ar9 x L μ 0 (na9 0) 0 0 (txE x L e)).2)) := eσ_54_e
            have ht5009_σ_54 : σ_54 5009 = (nI ((ar9 x L μ 0 (na9 0) 0 0 (txE x L e)).1)) := eσ_54_f
            have ht4004_σ_54 : σ_54 4004 = (if (ar9 x L μ 0 (na9 0) 0 0 (txE x L e)).1 = 0 then p0 else nI (txS x L (ar9 x L μ 0 (na9 0) 0 0 (txE x L e)).2)) := eσ_54_g
            have hcTX_σ_54 : TX 5600 σ_54 L x := eσ_54_h
            have hcVL_σ_54 : VL σ_54 x L (ar9 x L μ 0 (na9 0) 0 0 (txE x L e)).2 := eσ_54_i
            have hcFR_σ_54 : ∀ a, (464 ≤ a ∧ a ≠ 5010 ∧ a ≠ 5009 ∧ a ≠ 4004 ∧ (a < 5005 ∨ 5008 < a) ∨ a = 10) → σ_54 a = σ a := by intro a ha; exact Eq.trans (b := σ_53 a) (eσ_54_j a (by first | omega | (simp only [vb] at *; omega))) (hcFR_σ_53 a ha)
            have hcTD_σ_54 : TD σ_54 (b5 || decide (k = 5)) (b6 || decide (k = 6)) := by exact TD.fr hcTD_σ_53 (eσ_54_j _ (by first | omega | (simp only [vb] at *; omega)))
            obtain ⟨μ_55, eμ_55⟩ : ∃ μ_55 : Nat → Int32, μ_55 = pk0 (ar9 x L μ 0 (na9 0) 0 0 (txE x L e)).1 (EF μ 0 (txV x L (txE x L e)) (txV x L (txE x L (txE x L e))) (txV x L (txE x L (txE x L (txE x L e))))) μ := ⟨_, rfl⟩
            have hvσ_54 : vw 0 σ_54 = μ_55 := by rw [eμ_55]; exact eσ_54_a
            refine g_ifB_eq h dX12_aLine_108 (fun c108 => ?_) (fun c108 => ?_)
            ·
              have hq9 : (ar9 x L μ 0 (na9 0) 0 0 (txE x L e)).1 ≠ 0 := of_decide_eq_false c108
              have hR := ln_f (b5 := b5) (b6 := b6) hK1 hW1 hnt hc61 hq9
              refine g_iconst h dX12_aLine_122 (by decide) ?_
              exact g_zret h hQ dX12_aLine_123 (show narrow .boolean (.int (b2i false)) = .int (b2i false) from narrow_b2i _) (congrArg (fun z => some (Value.int (b2i z))) (show (decide ((ln9 x L (0, e, μ, b5, b6)).1 = 0)) = false by rw [hR]; first | rfl | exact decide_eq_true rfl | exact decide_eq_false hq9 | exact decide_eq_false (tff_0 (by decide)) | exact c115 | exact c135 | exact c165 | exact c185 | exact c208 | exact c231 | exact c251 | decide)) (by exact ⟨(by first | (rw [hR]; exact (hvσ_54).trans (by simp only [eμ_55]; exact if_neg hq9)) | (rw [hR]; exact (hvσ_54).trans (by simp only [eμ_55]; exact if_pos hq9)) | (rw [hR]; exact hvσ_54) | fail), (by first | exact ht5004_σ_54 | assumption | fail), (by rw [hR]; exact ht5005_σ_54), (by rw [hR]; exact ht5006_σ_54), (by rw [hR]; exact ht5007_σ_54), (by rw [hR]; exact ht5009_σ_54), (by first | (rw [hR]; exact ht4004_σ_54) | (rw [hR]; exact (ht4004_σ_54).trans (if_neg (by first | exact tff_0 (by decide) | decide)).symm) | fail), (by first | exact hcTX_σ_54 | assumption | fail), (by rw [hR]; exact hcVL_σ_54), (by first | (intro _; rw [hR]; exact hcTD_σ_54) | (intro z; rw [hR] at z; exact absurd z hq9) | (intro z; rw [hR] at z; exact absurd z (by first | exact tff_0 (by decide) | decide)) | fail), (by exact hcFR_σ_54)⟩)
            ·
              have hq9 : (ar9 x L μ 0 (na9 0) 0 0 (txE x L e)).1 = 0 := of_decide_eq_true c108
              have hR := ln_y (b5 := b5) (b6 := b6) hK1 hW1 hnt hc61 hq9
              have hab := (ar9_b (x := x) (L := L) (μ := μ) (k := 0) (na9 0) 0 0 (txE x L e) hb.2.2).2.2
              have ht5009_σ_54 : σ_54 5009 = (nI 0) := by rw [ht5009_σ_54, hq9]
              have ht4004_σ_54 : σ_54 4004 = p0 := by rw [ht4004_σ_54, if_pos hq9]
              refine g_aload_n h dX12_aLine_111 0 rfl ?_
              refine g_cvi (rest := []) h (r_closes hW ((ar9 x L μ 0 (na9 0) 0 0 (txE x L e)).2) L x p0 (by first | omega | assumption | fail) (by first | omega | assumption | fail) (by first | exact ht5004_σ_54 | assumption | fail) (by first | exact ht5005_σ_54 | assumption | fail) (by first | exact ht5006_σ_54 | assumption | fail) (by first | exact ht5007_σ_54 | assumption | fail) (by first | exact ht5009_σ_54 | assumption | fail) (by first | exact ht4004_σ_54 | assumption | fail) (by first | exact hcTX_σ_54 | assumption | fail) (by first | exact hcVL_σ_54 | assumption | fail)) lX12_closes mX12_253 (Nat.lt_of_lt_of_le (by decide) (Nat.le_refl _)) (by decide) sc_0 rfl rfl rfl rfl dX12_aLine_112 (fun σ_56 eσ_56 => ?_)
              obtain ⟨eσ_56_a, eσ_56_b, eσ_56_c, eσ_56_d, eσ_56_e, eσ_56_f, eσ_56_g, eσ_56_h, eσ_56_i⟩ := eσ_56
              have eσ_56_a : σ_56 5004 = (nI L) := eσ_56_a
              have eσ_56_b : σ_56 5005 = (nI (kr (txK x L (cl9 x L ((ar9 x L μ 0 (na9 0) 0 0 (txE x L e)).2))))) := eσ_56_b
              have eσ_56_c : σ_56 5006 = (nI (txS x L (cl9 x L ((ar9 x L μ 0 (na9 0) 0 0 (txE x L e)).2)))) := eσ_56_c
              have eσ_56_d : σ_56 5007 = (nI (txE x L (cl9 x L ((ar9 x L μ 0 (na9 0) 0 0 (txE x L e)).2)))) := eσ_56_d
              have eσ_56_e : σ_56 5009 = (nI (tf9 (txK x L ((ar9 x L μ 0 (na9 0) 0 0 (txE x L e)).2)) 3)) := eσ_56_e
              have eσ_56_f : σ_56 4004 = (if tf9 (txK x L ((ar9 x L μ 0 (na9 0) 0 0 (txE x L e)).2)) 3 = 0 then p0 else nI (txS x L (cl9 x L ((ar9 x L μ 0 (na9 0) 0 0 (txE x L e)).2)))) := eσ_56_f
              have eσ_56_g : TX 5600 σ_56 L x := eσ_56_g
              have eσ_56_h : VL σ_56 x L (cl9 x L ((ar9 x L μ 0 (na9 0) 0 0 (txE x L e)).2)) := eσ_56_h
              have eσ_56_i : ∀ a, (a ≠ 5009 ∧ a ≠ 4004 ∧ (a < 5005 ∨ 5008 < a)) → σ_56 a = σ_54 a := eσ_56_i
              have ht5004_σ_56 : σ_56 5004 = (nI L) := eσ_56_a
              have ht5005_σ_56 : σ_56 5005 = (nI (kr (txK x L (cl9 x L ((ar9 x L μ 0 (na9 0) 0 0 (txE x L e)).2))))) := eσ_56_b
              have ht5006_σ_56 : σ_56 5006 = (nI (txS x L (cl9 x L ((ar9 x L μ 0 (na9 0) 0 0 (txE x L e)).2)))) := eσ_56_c
              have ht5007_σ_56 : σ_56 5007 = (nI (txE x L (cl9 x L ((ar9 x L μ 0 (na9 0) 0 0 (txE x L e)).2)))) := eσ_56_d
              have ht5009_σ_56 : σ_56 5009 = (nI (tf9 (txK x L ((ar9 x L μ 0 (na9 0) 0 0 (txE x L e)).2)) 3)) := eσ_56_e
              have ht4004_σ_56 : σ_56 4004 = (if tf9 (txK x L ((ar9 x L μ 0 (na9 0) 0 0 (txE x L e)).2)) 3 = 0 then p0 else nI (txS x L (cl9 x L ((ar9 x L μ 0 (na9 0) 0 0 (txE x L e)).2)))) := eσ_56_f
              have hcTX_σ_56 : TX 5600 σ_56 L x := eσ_56_g
              have hcVL_σ_56 : VL σ_56 x L (cl9 x L ((ar9 x L μ 0 (na9 0) 0 0 (txE x L e)).2)) := eσ_56_h
              have hcFR_σ_56 : ∀ a, (464 ≤ a ∧ a ≠ 5010 ∧ a ≠ 5009 ∧ a ≠ 4004 ∧ (a < 5005 ∨ 5008 < a) ∨ a = 10) → σ_56 a = σ a := by intro a ha; exact Eq.trans (b := σ_54 a) (eσ_56_i a (by first | omega | (simp only [vb] at *; omega))) (hcFR_σ_54 a ha)
              have hcTD_σ_56 : TD σ_56 (b5 || decide (k = 5)) (b6 || decide (k = 6)) := by exact TD.fr hcTD_σ_54 (eσ_56_i _ (by first | omega | (simp only [vb] at *; omega)))
              have hvσ_56 : vw 0 σ_56 = μ_55 := by rw [vw_fr (σ := σ_54) (fun j _ _ => eσ_56_i _ (by first | omega | (simp only [vb] at *; omega)))]; first | exact hvσ_54 | assumption
              refine g_ifB_eq h dX12_aLine_115 (fun c115 => ?_) (fun c115 => ?_)
              ·
                refine g_iconst h dX12_aLine_122 (by decide) ?_
                exact g_zret h hQ dX12_aLine_123 (show narrow .boolean (.int (b2i false)) = .int (b2i false) from narrow_b2i _) (congrArg (fun z => some (Value.int (b2i z))) (show (decide ((ln9 x L (0, e, μ, b5, b6)).1 = 0)) = false by rw [hR]; first | rfl | exact decide_eq_true rfl | exact decide_eq_false hq9 | exact decide_eq_false (tff_0 (by decide)) | exact c115 | exact c135 | exact c165 | exact c185 | exact c208 | exact c231 | exact c251 | decide)) (by exact ⟨(by first | (rw [hR]; exact (hvσ_56).trans (by simp only [eμ_55]; exact if_neg hq9)) | (rw [hR]; exact (hvσ_56).trans (by simp only [eμ_55]; exact if_pos hq9)) | (rw [hR]; exact hvσ_56) | fail), (by first | exact ht5004_σ_56 | assumption | fail), (by rw [hR]; exact ht5005_σ_56), (by rw [hR]; exact ht5006_σ_56), (by rw [hR]; exact ht5007_σ_56), (by rw [hR]; exact ht5009_σ_56), (by first | (rw [hR]; exact ht4004_σ_56) | (rw [hR]; exact (ht4004_σ_56).trans (if_neg (by first | exact tff_0 (by decide) | decide)).symm) | fail), (by first | exact hcTX_σ_56 | assumption | fail), (by rw [hR]; exact hcVL_σ_56), (by first | (intro _; rw [hR]; exact hcTD_σ_56) | (intro z; rw [hR] at z; exact absurd z hq9) | (intro z; rw [hR] at z; exact absurd z (by first | exact tff_0 (by decide) | decide)) | fail), (by exact hcFR_σ_56)⟩)
              ·
                refine g_iconst h dX12_aLine_118 (by decide) ?_
                refine g_goto h dX12_aLine_119 ?_
                exact g_zret h hQ dX12_aLine_123 (show narrow .boolean (.int (b2i true)) = .int (b2i true) from narrow_b2i _) (congrArg (fun z => some (Value.int (b2i z))) (show (decide ((ln9 x L (0, e, μ, b5, b6)).1 = 0)) = true by rw [hR]; first | rfl | exact decide_eq_true rfl | exact decide_eq_false hq9 | exact decide_eq_false (tff_0 (by decide)) | exact c115 | exact c135 | exact c165 | exact c185 | exact c208 | exact c231 | exact c251 | decide)) (by exact ⟨(by first | (rw [hR]; exact (hvσ_56).trans (by simp only [eμ_55]; exact if_neg hq9)) | (rw [hR]; exact (hvσ_56).trans (by simp only [eμ_55]; exact if_pos hq9)) | (rw [hR]; exact hvσ_56) | fail), (by first | exact ht5004_σ_56 | assumption | fail), (by rw [hR]; exact ht5005_σ_56), (by rw [hR]; exact ht5006_σ_56), (by rw [hR]; exact ht5007_σ_56), (by rw [hR]; exact ht5009_σ_56), (by first | (rw [hR]; exact ht4004_σ_56) | (rw [hR]; exact (ht4004_σ_56).trans (if_neg (by first | exact tff_0 (by decide) | decide)).symm) | fail), (by first | exact hcTX_σ_56 | assumption | fail), (by rw [hR]; exact hcVL_σ_56), (by first | (intro _; rw [hR]; exact hcTD_σ_56) | (intro z; rw [hR] at z; exact absurd z hq9) | (intro z; rw [hR] at z; exact absurd z (by first | exact tff_0 (by decide) | decide)) | fail), (by exact hcFR_σ_56)⟩)
          ·
            refine g_tsw (off := 63) (tgt := 124) h dX12_aLine_61 (nI 1) (by rw [hc61]) (by decide) (by decide) (by decide +kernel) (by decide) ?_
            refine g_aload_n h dX12_aLine_124 0 rfl ?_
            refine g_cvi (rest := []) h (r_aWill hW (txE x L e) L x p0 μ (by first | omega | assumption | fail) (by first | omega | assumption | fail) (by first | exact hvσ_53 | assumption | fail) (by assumption) (by first | exact ht5004_σ_53 | assumption | fail) (by first | exact ht5005_σ_53 | assumption | fail) (by first | exact ht5006_σ_53 | assumption | fail) (by first | exact ht5007_σ_53 | assumption | fail) (by first | exact ht5009_σ_53 | assumption | fail) (by first | exact ht4004_σ_53 | assumption | fail) (by first | exact hcTX_σ_53 | assumption | fail) (by first | exact hcVL_σ_53 | assumption | fail)) lX12_aWill mX12_256 (Nat.lt_of_lt_of_le (by decide) (Nat.le_refl _)) (by decide) sc_0 rfl rfl rfl rfl dX12_aLine_125 (fun σ_57 eσ_57 => ?_)
            obtain ⟨eσ_57_a, eσ_57_b, eσ_57_c, eσ_57_d, eσ_57_e, eσ_57_f, eσ_57_g, eσ_57_h, eσ_57_i, eσ_57_j⟩ := eσ_57
            have eσ_57_a : vw 0 σ_57 = pk0 (ar9 x L μ 1 (na9 1) 0 0 (txE x L e)).1 (EF μ 1 (txV x L (txE x L e)) (txV x L (txE x L (txE x L e))) (txV x L (txE x L (txE x L (txE x L e))))) μ := eσ_57_a
            have eσ_57_b : σ_57 5004 = (nI L) := eσ_57_b
            have eσ_57_c : σ_57 5005 = (nI (kr (txK x L (ar9 x L μ 1 (na9 1) 0 0 (txE x L e)).2))) := eσ_57_c
            have eσ_57_d : σ_57 5006 = (nI (txS x L (ar9 x L μ 1 (na9 1) 0 0 (txE x L e)).2)) := eσ_57_d
            have eσ_57_e : σ_57 5007 = (nI (txE x L (ar9 x L μ 1 (na9 1) 0 0 (txE x L e)).2)) := eσ_57_e
            have eσ_57_f : σ_57 5009 = (nI ((ar9 x L μ 1 (na9 1) 0 0 (txE x L e)).1)) := eσ_57_f
            have eσ_57_g : σ_57 4004 = (if (ar9 x L μ 1 (na9 1) 0 0 (txE x L e)).1 = 0 then p0 else nI (txS x L (ar9 x L μ 1 (na9 1) 0 0 (txE x L e)).2)) := eσ_57_g
            have eσ_57_h : TX 5600 σ_57 L x := eσ_57_h
            have eσ_57_i : VL σ_57 x L (ar9 x L μ 1 (na9 1) 0 0 (txE x L e)).2 := eσ_57_i
            have eσ_57_j : ∀ a, (464 ≤ a ∧ a ≠ 5009 ∧ a ≠ 4004 ∧ (a < 5005 ∨ 5008 < a) ∨ a = 10) → σ_57 a = σ_53 a := eσ_57_j
            have ht5004_σ_57 : σ_57 5004 = (nI L) := eσ_57_b
            have ht5005_σ_57 : σ_57 5005 = (nI (kr (txK x L (ar9 x L μ 1 (na9 1) 0 0 (txE x L e)).2))) := eσ_57_c
            have ht5006_σ_57 : σ_57 5006 = (nI (txS x L (ar9 x L μ 1 (na9 1) 0 0 (txE x L e)).2)) := eσ_57_d
            have ht5007_σ_57 : σ_57 5007 = (nI (txE x L (ar9 x L μ 1 (na9 1) 0 0 (txE x L e)).2)) := eσ_57_e
            have ht5009_σ_57 : σ_57 5009 = (nI ((ar9 x L μ 1 (na9 1) 0 0 (txE x L e)).1)) := eσ_57_f
            have ht4004_σ_57 : σ_57 4004 = (if (ar9 x L μ 1 (na9 1) 0 0 (txE x L e)).1 = 0 then p0 else nI (txS x L (ar9 x L μ 1 (na9 1) 0 0 (txE x L e)).2)) := eσ_57_g
            have hcTX_σ_57 : TX 5600 σ_57 L x := eσ_57_h
            have hcVL_σ_57 : VL σ_57 x L (ar9 x L μ 1 (na9 1) 0 0 (txE x L e)).2 := eσ_57_i
            have hcFR_σ_57 : ∀ a, (464 ≤ a ∧ a ≠ 5010 ∧ a ≠ 5009 ∧ a ≠ 4004 ∧ (a < 5005 ∨ 5008 < a) ∨ a = 10) → σ_57 a = σ a := by intro a ha; exact Eq.trans (b := σ_53 a) (eσ_57_j a (by first | omega | (simp only [vb] at *; omega))) (hcFR_σ_53 a ha)
            have hcTD_σ_57 : TD σ_57 (b5 || decide (k = 5)) (b6 || decide (k = 6)) := by exact TD.fr hcTD_σ_53 (eσ_57_j _ (by first | omega | (simp only [vb] at *; omega)))
            obtain ⟨μ_58, eμ_58⟩ : ∃ μ_58 : Nat → Int32, μ_58 = pk0 (ar9 x L μ 1 (na9 1) 0 0 (txE x L e)).1 (EF μ 1 (txV x L (txE x L e)) (txV x L (txE x L (txE x L e))) (txV x L (txE x L (txE x L (txE x L e))))) μ := ⟨_, rfl⟩
            have hvσ_57 : vw 0 σ_57 = μ_58 := by rw [eμ_58]; exact eσ_57_a
            refine g_ifB_eq h dX12_aLine_128 (fun c128 => ?_) (fun c128 => ?_)
            ·
              have hq9 : (ar9 x L μ 1 (na9 1) 0 0 (txE x L e)).1 ≠ 0 := of_decide_eq_false c128
              have hR := ln_f (b5 := b5) (b6 := b6) hK1 hW1 hnt hc61 hq9
              refine g_iconst h dX12_aLine_142 (by decide) ?_
              exact g_zret h hQ dX12_aLine_143 (show narrow .boolean (.int (b2i false)) = .int (b2i false) from narrow_b2i _) (congrArg (fun z => some (Value.int (b2i z))) (show (decide ((ln9 x L (0, e, μ, b5, b6)).1 = 0)) = false by rw [hR]; first | rfl | exact decide_eq_true rfl | exact decide_eq_false hq9 | exact decide_eq_false (tff_0 (by decide)) | exact c115 | exact c135 | exact c165 | exact c185 | exact c208 | exact c231 | exact c251 | decide)) (by exact ⟨(by first | (rw [hR]; exact (hvσ_57).trans (by simp only [eμ_58]; exact if_neg hq9)) | (rw [hR]; exact (hvσ_57).trans (by simp only [eμ_58]; exact if_pos hq9)) | (rw [hR]; exact hvσ_57) | fail), (by first | exact ht5004_σ_57 | assumption | fail), (by rw [hR]; exact ht5005_σ_57), (by rw [hR]; exact ht5006_σ_57), (by rw [hR]; exact ht5007_σ_57), (by rw [hR]; exact ht5009_σ_57), (by first | (rw [hR]; exact ht4004_σ_57) | (rw [hR]; exact (ht4004_σ_57).trans (if_neg (by first | exact tff_0 (by decide) | decide)).symm) | fail), (by first | exact hcTX_σ_57 | assumption | fail), (by rw [hR]; exact hcVL_σ_57), (by first | (intro _; rw [hR]; exact hcTD_σ_57) | (intro z; rw [hR] at z; exact absurd z hq9) | (intro z; rw [hR] at z; exact absurd z (by first | exact tff_0 (by decide) | decide)) | fail), (by exact hcFR_σ_57)⟩)
            ·
              have hq9 : (ar9 x L μ 1 (na9 1) 0 0 (txE x L e)).1 = 0 := of_decide_eq_true c128
              have hR := ln_y (b5 := b5) (b6 := b6) hK1 hW1 hnt hc61 hq9
              have hab := (ar9_b (x := x) (L := L) (μ := μ) (k := 1) (na9 1) 0 0 (txE x L e) hb.2.2).2.2
              have ht5009_σ_57 : σ_57 5009 = (nI 0) := by rw [ht5009_σ_57, hq9]
              have ht4004_σ_57 : σ_57 4004 = p0 := by rw [ht4004_σ_57, if_pos hq9]
              refine g_aload_n h dX12_aLine_131 0 rfl ?_
              refine g_cvi (rest := []) h (r_closes hW ((ar9 x L μ 1 (na9 1) 0 0 (txE x L e)).2) L x p0 (by first | omega | assumption | fail) (by first | omega | assumption | fail) (by first | exact ht5004_σ_57 | assumption | fail) (by first | exact ht5005_σ_57 | assumption | fail) (by first | exact ht5006_σ_57 | assumption | fail) (by first | exact ht5007_σ_57 | assumption | fail) (by first | exact ht5009_σ_57 | assumption | fail) (by first | exact ht4004_σ_57 | assumption | fail) (by first | exact hcTX_σ_57 | assumption | fail) (by first | exact hcVL_σ_57 | assumption | fail)) lX12_closes mX12_253 (Nat.lt_of_lt_of_le (by decide) (Nat.le_refl _)) (by decide) sc_0 rfl rfl rfl rfl dX12_aLine_132 (fun σ_59 eσ_59 => ?_)
              obtain ⟨eσ_59_a, eσ_59_b, eσ_59_c, eσ_59_d, eσ_59_e, eσ_59_f, eσ_59_g, eσ_59_h, eσ_59_i⟩ := eσ_59
              have eσ_59_a : σ_59 5004 = (nI L) := eσ_59_a
              have eσ_59_b : σ_59 5005 = (nI (kr (txK x L (cl9 x L ((ar9 x L μ 1 (na9 1) 0 0 (txE x L e)).2))))) := eσ_59_b
              have eσ_59_c : σ_59 5006 = (nI (txS x L (cl9 x L ((ar9 x L μ 1 (na9 1) 0 0 (txE x L e)).2)))) := eσ_59_c
              have eσ_59_d : σ_59 5007 = (nI (txE x L (cl9 x L ((ar9 x L μ 1 (na9 1) 0 0 (txE x L e)).2)))) := eσ_59_d
              have eσ_59_e : σ_59 5009 = (nI (tf9 (txK x L ((ar9 x L μ 1 (na9 1) 0 0 (txE x L e)).2)) 3)) := eσ_59_e
              have eσ_59_f : σ_59 4004 = (if tf9 (txK x L ((ar9 x L μ 1 (na9 1) 0 0 (txE x L e)).2)) 3 = 0 then p0 else nI (txS x L (cl9 x L ((ar9 x L μ 1 (na9 1) 0 0 (txE x L e)).2)))) := eσ_59_f
              have eσ_59_g : TX 5600 σ_59 L x := eσ_59_g
              have eσ_59_h : VL σ_59 x L (cl9 x L ((ar9 x L μ 1 (na9 1) 0 0 (txE x L e)).2)) := eσ_59_h
              have eσ_59_i : ∀ a, (a ≠ 5009 ∧ a ≠ 4004 ∧ (a < 5005 ∨ 5008 < a)) → σ_59 a = σ_57 a := eσ_59_i
              have ht5004_σ_59 : σ_59 5004 = (nI L) := eσ_59_a
              have ht5005_σ_59 : σ_59 5005 = (nI (kr (txK x L (cl9 x L ((ar9 x L μ 1 (na9 1) 0 0 (txE x L e)).2))))) := eσ_59_b
              have ht5006_σ_59 : σ_59 5006 = (nI (txS x L (cl9 x L ((ar9 x L μ 1 (na9 1) 0 0 (txE x L e)).2)))) := eσ_59_c
              have ht5007_σ_59 : σ_59 5007 = (nI (txE x L (cl9 x L ((ar9 x L μ 1 (na9 1) 0 0 (txE x L e)).2)))) := eσ_59_d
              have ht5009_σ_59 : σ_59 5009 = (nI (tf9 (txK x L ((ar9 x L μ 1 (na9 1) 0 0 (txE x L e)).2)) 3)) := eσ_59_e
              have ht4004_σ_59 : σ_59 4004 = (if tf9 (txK x L ((ar9 x L μ 1 (na9 1) 0 0 (txE x L e)).2)) 3 = 0 then p0 else nI (txS x L (cl9 x L ((ar9 x L μ 1 (na9 1) 0 0 (txE x L e)).2)))) := eσ_59_f
              have hcTX_σ_59 : TX 5600 σ_59 L x := eσ_59_g
              have hcVL_σ_59 : VL σ_59 x L (cl9 x L ((ar9 x L μ 1 (na9 1) 0 0 (txE x L e)).2)) := eσ_59_h
              have hcFR_σ_59 : ∀ a, (464 ≤ a ∧ a ≠ 5010 ∧ a ≠ 5009 ∧ a ≠ 4004 ∧ (a < 5005 ∨ 5008 < a) ∨ a = 10) → σ_59 a = σ a := by intro a ha; exact Eq.trans (b := σ_57 a) (eσ_59_i a (by first | omega | (simp only [vb] at *; omega))) (hcFR_σ_57 a ha)
              have hcTD_σ_59 : TD σ_59 (b5 || decide (k = 5)) (b6 || decide (k = 6)) := by exact TD.fr hcTD_σ_57 (eσ_59_i _ (by first | omega | (simp only [vb] at *; omega)))
              have hvσ_59 : vw 0 σ_59 = μ_58 := by rw [vw_fr (σ := σ_57) (fun j _ _ => eσ_59_i _ (by first | omega | (simp only [vb] at *; omega)))]; first | exact hvσ_57 | assumption
              refine g_ifB_eq h dX12_aLine_135 (fun c135 => ?_) (fun c135 => ?_)
              ·
                refine g_iconst h dX12_aLine_142 (by decide) ?_
                exact g_zret h hQ dX12_aLine_143 (show narrow .boolean (.int (b2i false)) = .int (b2i false) from narrow_b2i _) (congrArg (fun z => some (Value.int (b2i z))) (show (decide ((ln9 x L (0, e, μ, b5, b6)).1 = 0)) = false by rw [hR]; first | rfl | exact decide_eq_true rfl | exact decide_eq_false hq9 | exact decide_eq_false (tff_0 (by decide)) | exact c115 | exact c135 | exact c165 | exact c185 | exact c208 | exact c231 | exact c251 | decide)) (by exact ⟨(by first | (rw [hR]; exact (hvσ_59).trans (by simp only [eμ_58]; exact if_neg hq9)) | (rw [hR]; exact (hvσ_59).trans (by simp only [eμ_58]; exact if_pos hq9)) | (rw [hR]; exact hvσ_59) | fail), (by first | exact ht5004_σ_59 | assumption | fail), (by rw [hR]; exact ht5005_σ_59), (by rw [hR]; exact ht5006_σ_59), (by rw [hR]; exact ht5007_σ_59), (by rw [hR]; exact ht5009_σ_59), (by first | (rw [hR]; exact ht4004_σ_59) | (rw [hR]; exact (ht4004_σ_59).trans (if_neg (by first | exact tff_0 (by decide) | decide)).symm) | fail), (by first | exact hcTX_σ_59 | assumption | fail), (by rw [hR]; exact hcVL_σ_59), (by first | (intro _; rw [hR]; exact hcTD_σ_59) | (intro z; rw [hR] at z; exact absurd z hq9) | (intro z; rw [hR] at z; exact absurd z (by first | exact tff_0 (by decide) | decide)) | fail), (by exact hcFR_σ_59)⟩)
              ·
                refine g_iconst h dX12_aLine_138 (by decide) ?_
                refine g_goto h dX12_aLine_139 ?_
                exact g_zret h hQ dX12_aLine_143 (show narrow .boolean (.int (b2i true)) = .int (b2i true) from narrow_b2i _) (congrArg (fun z => some (Value.int (b2i z))) (show (decide ((ln9 x L (0, e, μ, b5, b6)).1 = 0)) = true by rw [hR]; first | rfl | exact decide_eq_true rfl | exact decide_eq_false hq9 | exact decide_eq_false (tff_0 (by decide)) | exact c115 | exact c135 | exact c165 | exact c185 | exact c208 | exact c231 | exact c251 | decide)) (by exact ⟨(by first | (rw [hR]; exact (hvσ_59).trans (by simp only [eμ_58]; exact if_neg hq9)) | (rw [hR]; exact (hvσ_59).trans (by simp only [eμ_58]; exact if_pos hq9)) | (rw [hR]; exact hvσ_59) | fail), (by first | exact ht5004_σ_59 | assumption | fail), (by rw [hR]; exact ht5005_σ_59), (by rw [hR]; exact ht5006_σ_59), (by rw [hR]; exact ht5007_σ_59), (by rw [hR]; exact ht5009_σ_59), (by first | (rw [hR]; exact ht4004_σ_59) | (rw [hR]; exact (ht4004_σ_59).trans (if_neg (by first | exact tff_0 (by decide) | decide)).symm) | fail), (by first | exact hcTX_σ_59 | assumption | fail), (by rw [hR]; exact hcVL_σ_59), (by first | (intro _; rw [hR]; exact hcTD_σ_59) | (intro z; rw [hR] at z; exact absurd z hq9) | (intro z; rw [hR] at z; exact absurd z (by first | exact tff_0 (by decide) | decide)) | fail), (by exact hcFR_σ_59)⟩)
          ·
            refine g_tsw (off := 83) (tgt := 144) h dX12_aLine_61 (nI 2) (by rw [hc61]) (by decide) (by decide) (by decide +kernel) (by decide) ?_
            have J155 : ∀ (bo : Bool), (bo = decide (k = 2)) → G X w 2 155 [(0, .ref (w.1 0)), (1, .int (nI k))] [.int (b2i bo), .ref (w.1 0)] σ_53 := by
              intro bo hbo
              refine g_cvi (rest := []) h (r_anAir hW bo (txE x L e) L x p0 μ (by first | omega | assumption | fail) (by first | omega | assumption | fail) (by first | exact hvσ_53 | assumption | fail) (by assumption) (by first | exact ht5004_σ_53 | assumption | fail) (by first | exact ht5005_σ_53 | assumption | fail) (by first | exact ht5006_σ_53 | assumption | fail) (by first | exact ht5007_σ_53 | assumption | fail) (by first | exact ht5009_σ_53 | assumption | fail) (by first | exact ht4004_σ_53 | assumption | fail) (by first | exact hcTX_σ_53 | assumption | fail) (by first | exact hcVL_σ_53 | assumption | fail)) lX12_anAir mX12_259 (Nat.lt_of_lt_of_le (by decide) (Nat.le_refl _)) (by decide) sc_0 rfl rfl rfl rfl dX12_aLine_155 (fun σ_60 eσ_60 => ?_)
              obtain ⟨eσ_60_a, eσ_60_b, eσ_60_c, eσ_60_d, eσ_60_e, eσ_60_f, eσ_60_g, eσ_60_h, eσ_60_i, eσ_60_j⟩ := eσ_60
              have eσ_60_a : vw 0 σ_60 = pk0 (ar9 x L μ (kb bo) (na9 (kb bo)) 0 0 (txE x L e)).1 (EF μ (kb bo) (txV x L (txE x L e)) (txV x L (txE x L (txE x L e))) (txV x L (txE x L (txE x L (txE x L e))))) μ := eσ_60_a
              have eσ_60_b : σ_60 5004 = (nI L) := eσ_60_b
              have eσ_60_c : σ_60 5005 = (nI (kr (txK x L (ar9 x L μ (kb bo) (na9 (kb bo)) 0 0 (txE x L e)).2))) := eσ_60_c
              have eσ_60_d : σ_60 5006 = (nI (txS x L (ar9 x L μ (kb bo) (na9 (kb bo)) 0 0 (txE x L e)).2)) := eσ_60_d
              have eσ_60_e : σ_60 5007 = (nI (txE x L (ar9 x L μ (kb bo) (na9 (kb bo)) 0 0 (txE x L e)).2)) := eσ_60_e
              have eσ_60_f : σ_60 5009 = (nI ((ar9 x L μ (kb bo) (na9 (kb bo)) 0 0 (txE x L e)).1)) := eσ_60_f
              have eσ_60_g : σ_60 4004 = (if (ar9 x L μ (kb bo) (na9 (kb bo)) 0 0 (txE x L e)).1 = 0 then p0 else nI (txS x L (ar9 x L μ (kb bo) (na9 (kb bo)) 0 0 (txE x L e)).2)) := eσ_60_g
              have eσ_60_h : TX 5600 σ_60 L x := eσ_60_h
              have eσ_60_i : VL σ_60 x L (ar9 x L μ (kb bo) (na9 (kb bo)) 0 0 (txE x L e)).2 := eσ_60_i
              have eσ_60_j : ∀ a, (464 ≤ a ∧ a ≠ 5009 ∧ a ≠ 4004 ∧ (a < 5005 ∨ 5008 < a) ∨ a = 10) → σ_60 a = σ_53 a := eσ_60_j
              have ht5004_σ_60 : σ_60 5004 = (nI L) := eσ_60_b
              have ht5005_σ_60 : σ_60 5005 = (nI (kr (txK x L (ar9 x L μ (kb bo) (na9 (kb bo)) 0 0 (txE x L e)).2))) := eσ_60_c
              have ht5006_σ_60 : σ_60 5006 = (nI (txS x L (ar9 x L μ (kb bo) (na9 (kb bo)) 0 0 (txE x L e)).2)) := eσ_60_d
              have ht5007_σ_60 : σ_60 5007 = (nI (txE x L (ar9 x L μ (kb bo) (na9 (kb bo)) 0 0 (txE x L e)).2)) := eσ_60_e
              have ht5009_σ_60 : σ_60 5009 = (nI ((ar9 x L μ (kb bo) (na9 (kb bo)) 0 0 (txE x L e)).1)) := eσ_60_f
              have ht4004_σ_60 : σ_60 4004 = (if (ar9 x L μ (kb bo) (na9 (kb bo)) 0 0 (txE x L e)).1 = 0 then p0 else nI (txS x L (ar9 x L μ (kb bo) (na9 (kb bo)) 0 0 (txE x L e)).2)) := eσ_60_g
              have hcTX_σ_60 : TX 5600 σ_60 L x := eσ_60_h
              have hcVL_σ_60 : VL σ_60 x L (ar9 x L μ (kb bo) (na9 (kb bo)) 0 0 (txE x L e)).2 := eσ_60_i
              have hcFR_σ_60 : ∀ a, (464 ≤ a ∧ a ≠ 5010 ∧ a ≠ 5009 ∧ a ≠ 4004 ∧ (a < 5005 ∨ 5008 < a) ∨ a = 10) → σ_60 a = σ a := by intro a ha; exact Eq.trans (b := σ_53 a) (eσ_60_j a (by first | omega | (simp only [vb] at *; omega))) (hcFR_σ_53 a ha)
              have hcTD_σ_60 : TD σ_60 (b5 || decide (k = 5)) (b6 || decide (k = 6)) := by exact TD.fr hcTD_σ_53 (eσ_60_j _ (by first | omega | (simp only [vb] at *; omega)))
              obtain ⟨μ_61, eμ_61⟩ : ∃ μ_61 : Nat → Int32, μ_61 = pk0 (ar9 x L μ (kb bo) (na9 (kb bo)) 0 0 (txE x L e)).1 (EF μ (kb bo) (txV x L (txE x L e)) (txV x L (txE x L (txE x L e))) (txV x L (txE x L (txE x L (txE x L e))))) μ := ⟨_, rfl⟩
              have hvσ_60 : vw 0 σ_60 = μ_61 := by rw [eμ_61]; exact eσ_60_a
              refine g_ifB_eq h dX12_aLine_158 (fun c158 => ?_) (fun c158 => ?_)
              ·
                have hq9 : (ar9 x L μ (kb bo) (na9 (kb bo)) 0 0 (txE x L e)).1 ≠ 0 := of_decide_eq_false c158
                have hR := ln_f (b5 := b5) (b6 := b6) hK1 hW1 hnt (kb_k hbo (by omega)) hq9
                refine g_iconst h dX12_aLine_172 (by decide) ?_
                exact g_zret h hQ dX12_aLine_173 (show narrow .boolean (.int (b2i false)) = .int (b2i false) from narrow_b2i _) (congrArg (fun z => some (Value.int (b2i z))) (show (decide ((ln9 x L (0, e, μ, b5, b6)).1 = 0)) = false by rw [hR]; first | rfl | exact decide_eq_true rfl | exact decide_eq_false hq9 | exact decide_eq_false (tff_0 (by decide)) | exact c115 | exact c135 | exact c165 | exact c185 | exact c208 | exact c231 | exact c251 | decide)) (by exact ⟨(by first | (rw [hR]; exact (hvσ_60).trans (by simp only [eμ_61]; exact if_neg hq9)) | (rw [hR]; exact (hvσ_60).trans (by simp only [eμ_61]; exact if_pos hq9)) | (rw [hR]; exact hvσ_60) | fail), (by first | exact ht5004_σ_60 | assumption | fail), (by rw [hR]; exact ht5005_σ_60), (by rw [hR]; exact ht5006_σ_60), (by rw [hR]; exact ht5007_σ_60), (by rw [hR]; exact ht5009_σ_60), (by first | (rw [hR]; exact ht4004_σ_60) | (rw [hR]; exact (ht4004_σ_60).trans (if_neg (by first | exact tff_0 (by decide) | decide)).symm) | fail), (by first | exact hcTX_σ_60 | assumption | fail), (by rw [hR]; exact hcVL_σ_60), (by first | (intro _; rw [hR]; exact hcTD_σ_60) | (intro z; rw [hR] at z; exact absurd z hq9) | (intro z; rw [hR] at z; exact absurd z (by first | exact tff_0 (by decide) | decide)) | fail), (by exact hcFR_σ_60)⟩)
              ·
                have hq9 : (ar9 x L μ (kb bo) (na9 (kb bo)) 0 0 (txE x L e)).1 = 0 := of_decide_eq_true c158
                have hR := ln_y (b5 := b5) (b6 := b6) hK1 hW1 hnt (kb_k hbo (by omega)) hq9
                have hab := (ar9_b (x := x) (L := L) (μ := μ) (k := (kb bo)) (na9 (kb bo)) 0 0 (txE x L e) hb.2.2).2.2
                have ht5009_σ_60 : σ_60 5009 = (nI 0) := by rw [ht5009_σ_60, hq9]
                have ht4004_σ_60 : σ_60 4004 = p0 := by rw [ht4004_σ_60, if_pos hq9]
                refine g_aload_n h dX12_aLine_161 0 rfl ?_
                refine g_cvi (rest := []) h (r_closes hW ((ar9 x L μ (kb bo) (na9 (kb bo)) 0 0 (txE x L e)).2) L x p0 (by first | omega | assumption | fail) (by first | omega | assumption | fail) (by first | exact ht5004_σ_60 | assumption | fail) (by first | exact ht5005_σ_60 | assumption | fail) (by first | exact ht5006_σ_60 | assumption | fail) (by first | exact ht5007_σ_60 | assumption | fail) (by first | exact ht5009_σ_60 | assumption | fail) (by first | exact ht4004_σ_60 | assumption | fail) (by first | exact hcTX_σ_60 | assumption | fail) (by first | exact hcVL_σ_60 | assumption | fail)) lX12_closes mX12_253 (Nat.lt_of_lt_of_le (by decide) (Nat.le_refl _)) (by decide) sc_0 rfl rfl rfl rfl dX12_aLine_162 (fun σ_62 eσ_62 => ?_)
                obtain ⟨eσ_62_a, eσ_62_b, eσ_62_c, eσ_62_d, eσ_62_e, eσ_62_f, eσ_62_g, eσ_62_h, eσ_62_i⟩ := eσ_62
                have eσ_62_a : σ_62 5004 = (nI L) := eσ_62_a
                have eσ_62_b : σ_62 5005 = (nI (kr (txK x L (cl9 x L ((ar9 x L μ (kb bo) (na9 (kb bo)) 0 0 (txE x L e)).2))))) := eσ_62_b
                have eσ_62_c : σ_62 5006 = (nI (txS x L (cl9 x L ((ar9 x L μ (kb bo) (na9 (kb bo)) 0 0 (txE x L e)).2)))) := eσ_62_c
                have eσ_62_d : σ_62 5007 = (nI (txE x L (cl9 x L ((ar9 x L μ (kb bo) (na9 (kb bo)) 0 0 (txE x L e)).2)))) := eσ_62_d
                have eσ_62_e : σ_62 5009 = (nI (tf9 (txK x L ((ar9 x L μ (kb bo) (na9 (kb bo)) 0 0 (txE x L e)).2)) 3)) := eσ_62_e
                have eσ_62_f : σ_62 4004 = (if tf9 (txK x L ((ar9 x L μ (kb bo) (na9 (kb bo)) 0 0 (txE x L e)).2)) 3 = 0 then p0 else nI (txS x L (cl9 x L ((ar9 x L μ (kb bo) (na9 (kb bo)) 0 0 (txE x L e)).2)))) := eσ_62_f
                have eσ_62_g : TX 5600 σ_62 L x := eσ_62_g
                have eσ_62_h : VL σ_62 x L (cl9 x L ((ar9 x L μ (kb bo) (na9 (kb bo)) 0 0 (txE x L e)).2)) := eσ_62_h
                have eσ_62_i : ∀ a, (a ≠ 5009 ∧ a ≠ 4004 ∧ (a < 5005 ∨ 5008 < a)) → σ_62 a = σ_60 a := eσ_62_i
                have ht5004_σ_62 : σ_62 5004 = (nI L) := eσ_62_a
                have ht5005_σ_62 : σ_62 5005 = (nI (kr (txK x L (cl9 x L ((ar9 x L μ (kb bo) (na9 (kb bo)) 0 0 (txE x L e)).2))))) := eσ_62_b
                have ht5006_σ_62 : σ_62 5006 = (nI (txS x L (cl9 x L ((ar9 x L μ (kb bo) (na9 (kb bo)) 0 0 (txE x L e)).2)))) := eσ_62_c
                have ht5007_σ_62 : σ_62 5007 = (nI (txE x L (cl9 x L ((ar9 x L μ (kb bo) (na9 (kb bo)) 0 0 (txE x L e)).2)))) := eσ_62_d
                have ht5009_σ_62 : σ_62 5009 = (nI (tf9 (txK x L ((ar9 x L μ (kb bo) (na9 (kb bo)) 0 0 (txE x L e)).2)) 3)) := eσ_62_e
                have ht4004_σ_62 : σ_62 4004 = (if tf9 (txK x L ((ar9 x L μ (kb bo) (na9 (kb bo)) 0 0 (txE x L e)).2)) 3 = 0 then p0 else nI (txS x L (cl9 x L ((ar9 x L μ (kb bo) (na9 (kb bo)) 0 0 (txE x L e)).2)))) := eσ_62_f
                have hcTX_σ_62 : TX 5600 σ_62 L x := eσ_62_g
                have hcVL_σ_62 : VL σ_62 x L (cl9 x L ((ar9 x L μ (kb bo) (na9 (kb bo)) 0 0 (txE x L e)).2)) := eσ_62_h
                have hcFR_σ_62 : ∀ a, (464 ≤ a ∧ a ≠ 5010 ∧ a ≠ 5009 ∧ a ≠ 4004 ∧ (a < 5005 ∨ 5008 < a) ∨ a = 10) → σ_62 a = σ a := by intro a ha; exact Eq.trans (b := σ_60 a) (eσ_62_i a (by first | omega | (simp only [vb] at *; omega))) (hcFR_σ_60 a ha)
                have hcTD_σ_62 : TD σ_62 (b5 || decide (k = 5)) (b6 || decide (k = 6)) := by exact TD.fr hcTD_σ_60 (eσ_62_i _ (by first | omega | (simp only [vb] at *; omega)))
                have hvσ_62 : vw 0 σ_62 = μ_61 := by rw [vw_fr (σ := σ_60) (fun j _ _ => eσ_62_i _ (by first | omega | (simp only [vb] at *; omega)))]; first | exact hvσ_60 | assumption
                refine g_ifB_eq h dX12_aLine_165 (fun c165 => ?_) (fun c165 => ?_)
                ·
                  refine g_iconst h dX12_aLine_172 (by decide) ?_
                  exact g_zret h hQ dX12_aLine_173 (show narrow .boolean (.int (b2i false)) = .int (b2i false) from narrow_b2i _) (congrArg (fun z => some (Value.int (b2i z))) (show (decide ((ln9 x L (0, e, μ, b5, b6)).1 = 0)) = false by rw [hR]; first | rfl | exact decide_eq_true rfl | exact decide_eq_false hq9 | exact decide_eq_false (tff_0 (by decide)) | exact c115 | exact c135 | exact c165 | exact c185 | exact c208 | exact c231 | exact c251 | decide)) (by exact ⟨(by first | (rw [hR]; exact (hvσ_62).trans (by simp only [eμ_61]; exact if_neg hq9)) | (rw [hR]; exact (hvσ_62).trans (by simp only [eμ_61]; exact if_pos hq9)) | (rw [hR]; exact hvσ_62) | fail), (by first | exact ht5004_σ_62 | assumption | fail), (by rw [hR]; exact ht5005_σ_62), (by rw [hR]; exact ht5006_σ_62), (by rw [hR]; exact ht5007_σ_62), (by rw [hR]; exact ht5009_σ_62), (by first | (rw [hR]; exact ht4004_σ_62) | (rw [hR]; exact (ht4004_σ_62).trans (if_neg (by first | exact tff_0 (by decide) | decide)).symm) | fail), (by first | exact hcTX_σ_62 | assumption | fail), (by rw [hR]; exact hcVL_σ_62), (by first | (intro _; rw [hR]; exact hcTD_σ_62) | (intro z; rw [hR] at z; exact absurd z hq9) | (intro z; rw [hR] at z; exact absurd z (by first | exact tff_0 (by decide) | decide)) | fail), (by exact hcFR_σ_62)⟩)
                ·
                  refine g_iconst h dX12_aLine_168 (by decide) ?_
                  refine g_goto h dX12_aLine_169 ?_
                  exact g_zret h hQ dX12_aLine_173 (show narrow .boolean (.int (b2i true)) = .int (b2i true) from narrow_b2i _) (congrArg (fun z => some (Value.int (b2i z))) (show (decide ((ln9 x L (0, e, μ, b5, b6)).1 = 0)) = true by rw [hR]; first | rfl | exact decide_eq_true rfl | exact decide_eq_false hq9 | exact decide_eq_false (tff_0 (by decide)) | exact c115 | exact c135 | exact c165 | exact c185 | exact c208 | exact c231 | exact c251 | decide)) (by exact ⟨(by first | (rw [hR]; exact (hvσ_62).trans (by simp only [eμ_61]; exact if_neg hq9)) | (rw [hR]; exact (hvσ_62).trans (by simp only [eμ_61]; exact if_pos hq9)) | (rw [hR]; exact hvσ_62) | fail), (by first | exact ht5004_σ_62 | assumption | fail), (by rw [hR]; exact ht5005_σ_62), (by rw [hR]; exact ht5006_σ_62), (by rw [hR]; exact ht5007_σ_62), (by rw [hR]; exact ht5009_σ_62), (by first | (rw [hR]; exact ht4004_σ_62) | (rw [hR]; exact (ht4004_σ_62).trans (if_neg (by first | exact tff_0 (by decide) | decide)).symm) | fail), (by first | exact hcTX_σ_62 | assumption | fail), (by rw [hR]; exact hcVL_σ_62), (by first | (intro _; rw [hR]; exact hcTD_σ_62) | (intro z; rw [hR] at z; exact absurd z hq9) | (intro z; rw [hR] at z; exact absurd z (by first | exact tff_0 (by decide) | decide)) | fail), (by exact hcFR_σ_62)⟩)
            refine g_aload_n h dX12_aLine_144 0 rfl ?_
            refine g_iload_n h dX12_aLine_145 1 rfl ?_
            refine g_iconst h dX12_aLine_146 (by decide) ?_
            refine g_icmpN_ne h dX12_aLine_147 (by omega) (by omega) (fun c147 => ?_) (fun c147 => ?_)
            ·
              refine g_iconst h dX12_aLine_154 (by decide) ?_
              exact J155 false (by first | exact (decide_eq_true (by omega)).symm | exact (decide_eq_false (by omega)).symm | fail | fail)
            ·
              refine g_iconst h dX12_aLine_150 (by decide) ?_
              refine g_goto h dX12_aLine_151 ?_
              exact J155 true (by first | exact (decide_eq_true (by omega)).symm | exact (decide_eq_false (by omega)).symm | fail | fail)
          ·
            refine g_tsw (off := 83) (tgt := 144) h dX12_aLine_61 (nI 3) (by rw [hc61]) (by decide) (by decide) (by decide +kernel) (by decide) ?_
            have J155 : ∀ (bo : Bool), (bo = decide (k = 2)) → G X w 2 155 [(0, .ref (w.1 0)), (1, .int (nI k))] [.int (b2i bo), .ref (w.1 0)] σ_53 := by
              intro bo hbo
              refine g_cvi (rest := []) h (r_anAir hW bo (txE x L e) L x p0 μ (by first | omega | assumption | fail) (by first | omega | assumption | fail) (by first | exact hvσ_53 | assumption | fail) (by assumption) (by first | exact ht5004_σ_53 | assumption | fail) (by first | exact ht5005_σ_53 | assumption | fail) (by first | exact ht5006_σ_53 | assumption | fail) (by first | exact ht5007_σ_53 | assumption | fail) (by first | exact ht5009_σ_53 | assumption | fail) (by first | exact ht4004_σ_53 | assumption | fail) (by first | exact hcTX_σ_53 | assumption | fail) (by first | exact hcVL_σ_53 | assumption | fail)) lX12_anAir mX12_259 (Nat.lt_of_lt_of_le (by decide) (Nat.le_refl _)) (by decide) sc_0 rfl rfl rfl rfl dX12_aLine_155 (fun σ_63 eσ_63 => ?_)
              obtain ⟨eσ_63_a, eσ_63_b, eσ_63_c, eσ_63_d, eσ_63_e, eσ_63_f, eσ_63_g, eσ_63_h, eσ_63_i, eσ_63_j⟩ := eσ_63
              have eσ_63_a : vw 0 σ_63 = pk0 (ar9 x L μ (kb bo) (na9 (kb bo)) 0 0 (txE x L e)).1 (EF μ (kb bo) (txV x L (txE x L e)) (txV x L (txE x L (txE x L e))) (txV x L (txE x L (txE x L (txE x L e))))) μ := eσ_63_a
              have eσ_63_b : σ_63 5004 = (nI L) := eσ_63_b
              have eσ_63_c : σ_63 5005 = (nI (kr (txK x L (ar9 x L μ (kb bo) (na9 (kb bo)) 0 0 (txE x L e)).2))) := eσ_63_c
              have eσ_63_d : σ_63 5006 = (nI (txS x L (ar9 x L μ (kb bo) (na9 (kb bo)) 0 0 (txE x L e)).2)) := eσ_63_d
              have eσ_63_e : σ_63 5007 = (nI (txE x L (ar9 x L μ (kb bo) (na9 (kb bo)) 0 0 (txE x L e)).2)) := eσ_63_e
              have eσ_63_f : σ_63 5009 = (nI ((ar9 x L μ (kb bo) (na9 (kb bo)) 0 0 (txE x L e)).1)) := eσ_63_f
              have eσ_63_g : σ_63 4004 = (if (ar9 x L μ (kb bo) (na9 (kb bo)) 0 0 (txE x L e)).1 = 0 then p0 else nI (txS x L (ar9 x L μ (kb bo) (na9 (kb bo)) 0 0 (txE x L e)).2)) := eσ_63_g
              have eσ_63_h : TX 5600 σ_63 L x := eσ_63_h
              have eσ_63_i : VL σ_63 x L (ar9 x L μ (kb bo) (na9 (kb bo)) 0 0 (txE x L e)).2 := eσ_63_i
              have eσ_63_j : ∀ a, (464 ≤ a ∧ a ≠ 5009 ∧ a ≠ 4004 ∧ (a < 5005 ∨ 5008 < a) ∨ a = 10) → σ_63 a = σ_53 a := eσ_63_j
              have ht5004_σ_63 : σ_63 5004 = (nI L) := eσ_63_b
              have ht5005_σ_63 : σ_63 5005 = (nI (kr (txK x L (ar9 x L μ (kb bo) (na9 (kb bo)) 0 0 (txE x L e)).2))) := eσ_63_c
              have ht5006_σ_63 : σ_63 5006 = (nI (txS x L (ar9 x L μ (kb bo) (na9 (kb bo)) 0 0 (txE x L e)).2)) := eσ_63_d
              have ht5007_σ_63 : σ_63 5007 = (nI (txE x L (ar9 x L μ (kb bo) (na9 (kb bo)) 0 0 (txE x L e)).2)) := eσ_63_e
              have ht5009_σ_63 : σ_63 5009 = (nI ((ar9 x L μ (kb bo) (na9 (kb bo)) 0 0 (txE x L e)).1)) := eσ_63_f
              have ht4004_σ_63 : σ_63 4004 = (if (ar9 x L μ (kb bo) (na9 (kb bo)) 0 0 (txE x L e)).1 = 0 then p0 else nI (txS x L (ar9 x L μ (kb bo) (na9 (kb bo)) 0 0 (txE x L e)).2)) := eσ_63_g
              have hcTX_σ_63 : TX 5600 σ_63 L x := eσ_63_h
              have hcVL_σ_63 : VL σ_63 x L (ar9 x L μ (kb bo) (na9 (kb bo)) 0 0 (txE x L e)).2 := eσ_63_i
              have hcFR_σ_63 : ∀ a, (464 ≤ a ∧ a ≠ 5010 ∧ a ≠ 5009 ∧ a ≠ 4004 ∧ (a < 5005 ∨ 5008 < a) ∨ a = 10) → σ_63 a = σ a := by intro a ha; exact Eq.trans (b := σ_53 a) (eσ_63_j a (by first | omega | (simp only [vb] at *; omega))) (hcFR_σ_53 a ha)
              have hcTD_σ_63 : TD σ_63 (b5 || decide (k = 5)) (b6 || decide (k = 6)) := by exact TD.fr hcTD_σ_53 (eσ_63_j _ (by first | omega | (simp only [vb] at *; omega)))
              obtain ⟨μ_64, eμ_64⟩ : ∃ μ_64 : Nat → Int32, μ_64 = pk0 (ar9 x L μ (kb bo) (na9 (kb bo)) 0 0 (txE x L e)).1 (EF μ (kb bo) (txV x L (txE x L e)) (txV x L (txE x L (txE x L e))) (txV x L (txE x L (txE x L (txE x L e))))) μ := ⟨_, rfl⟩
              have hvσ_63 : vw 0 σ_63 = μ_64 := by rw [eμ_64]; exact eσ_63_a
              refine g_ifB_eq h dX12_aLine_158 (fun c158 => ?_) (fun c158 => ?_)
              ·
                have hq9 : (ar9 x L μ (kb bo) (na9 (kb bo)) 0 0 (txE x L e)).1 ≠ 0 := of_decide_eq_false c158
                have hR := ln_f (b5 := b5) (b6 := b6) hK1 hW1 hnt (kb_k hbo (by omega)) hq9
                refine g_iconst h dX12_aLine_172 (by decide) ?_
                exact g_zret h hQ dX12_aLine_173 (show narrow .boolean (.int (b2i false)) = .int (b2i false) from narrow_b2i _) (congrArg (fun z => some (Value.int (b2i z))) (show (decide ((ln9 x L (0, e, μ, b5, b6)).1 = 0)) = false by rw [hR]; first | rfl | exact decide_eq_true rfl | exact decide_eq_false hq9 | exact decide_eq_false (tff_0 (by decide)) | exact c115 | exact c135 | exact c165 | exact c185 | exact c208 | exact c231 | exact c251 | decide)) (by exact ⟨(by first | (rw [hR]; exact (hvσ_63).trans (by simp only [eμ_64]; exact if_neg hq9)) | (rw [hR]; exact (hvσ_63).trans (by simp only [eμ_64]; exact if_pos hq9)) | (rw [hR]; exact hvσ_63) | fail), (by first | exact ht5004_σ_63 | assumption | fail), (by rw [hR]; exact ht5005_σ_63), (by rw [hR]; exact ht5006_σ_63), (by rw [hR]; exact ht5007_σ_63), (by rw [hR]; exact ht5009_σ_63), (by first | (rw [hR]; exact ht4004_σ_63) | (rw [hR]; exact (ht4004_σ_63).trans (if_neg (by first | exact tff_0 (by decide) | decide)).symm) | fail), (by first | exact hcTX_σ_63 | assumption | fail), (by rw [hR]; exact hcVL_σ_63), (by first | (intro _; rw [hR]; exact hcTD_σ_63) | (intro z; rw [hR] at z; exact absurd z hq9) | (intro z; rw [hR] at z; exact absurd z (by first | exact tff_0 (by decide) | decide)) | fail), (by exact hcFR_σ_63)⟩)
              ·
                have hq9 : (ar9 x L μ (kb bo) (na9 (kb bo)) 0 0 (txE x L e)).1 = 0 := of_decide_eq_true c158
                have hR := ln_y (b5 := b5) (b6 := b6) hK1 hW1 hnt (kb_k hbo (by omega)) hq9
                have hab := (ar9_b (x := x) (L := L) (μ := μ) (k := (kb bo)) (na9 (kb bo)) 0 0 (txE x L e) hb.2.2).2.2
                have ht5009_σ_63 : σ_63 5009 = (nI 0) := by rw [ht5009_σ_63, hq9]
                have ht4004_σ_63 : σ_63 4004 = p0 := by rw [ht4004_σ_63, if_pos hq9]
                refine g_aload_n h dX12_aLine_161 0 rfl ?_
                refine g_cvi (rest := []) h (r_closes hW ((ar9 x L μ (kb bo) (na9 (kb bo)) 0 0 (txE x L e)).2) L x p0 (by first | omega | assumption | fail) (by first | omega | assumption | fail) (by first | exact ht5004_σ_63 | assumption | fail) (by first | exact ht5005_σ_63 | assumption | fail) (by first | exact ht5006_σ_63 | assumption | fail) (by first | exact ht5007_σ_63 | assumption | fail) (by first | exact ht5009_σ_63 | assumption | fail) (by first | exact ht4004_σ_63 | assumption | fail) (by first | exact hcTX_σ_63 | assumption | fail) (by first | exact hcVL_σ_63 | assumption | fail)) lX12_closes mX12_253 (Nat.lt_of_lt_of_le (by decide) (Nat.le_refl _)) (by decide) sc_0 rfl rfl rfl rfl dX12_aLine_162 (fun σ_65 eσ_65 => ?_)
                obtain ⟨eσ_65_a, eσ_65_b, eσ_65_c, eσ_65_d, eσ_65_e, eσ_65_f, eσ_65_g, eσ_65_h, eσ_65_i⟩ := eσ_65
                have eσ_65_a : σ_65 5004 = (nI L) := eσ_65_a
                have eσ_65_b : σ_65 5005 = (nI (kr (txK x L (cl9 x L ((ar9 x L μ (kb bo) (na9 (kb bo)) 0 0 (txE x L e)).2))))) := eσ_65_b
                have eσ_65_c : σ_65 5006 = (nI (txS x L (cl9 x L ((ar9 x L μ (kb bo) (na9 (kb bo)) 0 0 (txE x L e)).2)))) := eσ_65_c
                have eσ_65_d : σ_65 5007 = (nI (txE x L (cl9 x L ((ar9 x L μ (kb bo) (na9 (kb bo)) 0 0 (txE x L e)).2)))) := eσ_65_d
                have eσ_65_e : σ_65 5009 = (nI (tf9 (txK x L ((ar9 x L μ (kb bo) (na9 (kb bo)) 0 0 (txE x L e)).2)) 3)) := eσ_65_e
                have eσ_65_f : σ_65 4004 = (if tf9 (txK x L ((ar9 x L μ (kb bo) (na9 (kb bo)) 0 0 (txE x L e)).2)) 3 = 0 then p0 else nI (txS x L (cl9 x L ((ar9 x L μ (kb bo) (na9 (kb bo)) 0 0 (txE x L e)).2)))) := eσ_65_f
                have eσ_65_g : TX 5600 σ_65 L x := eσ_65_g
                have eσ_65_h : VL σ_65 x L (cl9 x L ((ar9 x L μ (kb bo) (na9 (kb bo)) 0 0 (txE x L e)).2)) := eσ_65_h
                have eσ_65_i : ∀ a, (a ≠ 5009 ∧ a ≠ 4004 ∧ (a < 5005 ∨ 5008 < a)) → σ_65 a = σ_63 a := eσ_65_i
                have ht5004_σ_65 : σ_65 5004 = (nI L) := eσ_65_a
                have ht5005_σ_65 : σ_65 5005 = (nI (kr (txK x L (cl9 x L ((ar9 x L μ (kb bo) (na9 (kb bo)) 0 0 (txE x L e)).2))))) := eσ_65_b
                have ht5006_σ_65 : σ_65 5006 = (nI (txS x L (cl9 x L ((ar9 x L μ (kb bo) (na9 (kb bo)) 0 0 (txE x L e)).2)))) := eσ_65_c
                have ht5007_σ_65 : σ_65 5007 = (nI (txE x L (cl9 x L ((ar9 x L μ (kb bo) (na9 (kb bo)) 0 0 (txE x L e)).2)))) := eσ_65_d
                have ht5009_σ_65 : σ_65 5009 = (nI (tf9 (txK x L ((ar9 x L μ (kb bo) (na9 (kb bo)) 0 0 (txE x L e)).2)) 3)) := eσ_65_e
                have ht4004_σ_65 : σ_65 4004 = (if tf9 (txK x L ((ar9 x L μ (kb bo) (na9 (kb bo)) 0 0 (txE x L e)).2)) 3 = 0 then p0 else nI (txS x L (cl9 x L ((ar9 x L μ (kb bo) (na9 (kb bo)) 0 0 (txE x L e)).2)))) := eσ_65_f
                have hcTX_σ_65 : TX 5600 σ_65 L x := eσ_65_g
                have hcVL_σ_65 : VL σ_65 x L (cl9 x L ((ar9 x L μ (kb bo) (na9 (kb bo)) 0 0 (txE x L e)).2)) := eσ_65_h
                have hcFR_σ_65 : ∀ a, (464 ≤ a ∧ a ≠ 5010 ∧ a ≠ 5009 ∧ a ≠ 4004 ∧ (a < 5005 ∨ 5008 < a) ∨ a = 10) → σ_65 a = σ a := by intro a ha; exact Eq.trans (b := σ_63 a) (eσ_65_i a (by first | omega | (simp only [vb] at *; omega))) (hcFR_σ_63 a ha)
                have hcTD_σ_65 : TD σ_65 (b5 || decide (k = 5)) (b6 || decide (k = 6)) := by exact TD.fr hcTD_σ_63 (eσ_65_i _ (by first | omega | (simp only [vb] at *; omega)))
                have hvσ_65 : vw 0 σ_65 = μ_64 := by rw [vw_fr (σ := σ_63) (fun j _ _ => eσ_65_i _ (by first | omega | (simp only [vb] at *; omega)))]; first | exact hvσ_63 | assumption
                refine g_ifB_eq h dX12_aLine_165 (fun c165 => ?_) (fun c165 => ?_)
                ·
                  refine g_iconst h dX12_aLine_172 (by decide) ?_
                  exact g_zret h hQ dX12_aLine_173 (show narrow .boolean (.int (b2i false)) = .int (b2i false) from narrow_b2i _) (congrArg (fun z => some (Value.int (b2i z))) (show (decide ((ln9 x L (0, e, μ, b5, b6)).1 = 0)) = false by rw [hR]; first | rfl | exact decide_eq_true rfl | exact decide_eq_false hq9 | exact decide_eq_false (tff_0 (by decide)) | exact c115 | exact c135 | exact c165 | exact c185 | exact c208 | exact c231 | exact c251 | decide)) (by exact ⟨(by first | (rw [hR]; exact (hvσ_65).trans (by simp only [eμ_64]; exact if_neg hq9)) | (rw [hR]; exact (hvσ_65).trans (by simp only [eμ_64]; exact if_pos hq9)) | (rw [hR]; exact hvσ_65) | fail), (by first | exact ht5004_σ_65 | assumption | fail), (by rw [hR]; exact ht5005_σ_65), (by rw [hR]; exact ht5006_σ_65), (by rw [hR]; exact ht5007_σ_65), (by rw [hR]; exact ht5009_σ_65), (by first | (rw [hR]; exact ht4004_σ_65) | (rw [hR]; exact (ht4004_σ_65).trans (if_neg (by first | exact tff_0 (by decide) | decide)).symm) | fail), (by first | exact hcTX_σ_65 | assumption | fail), (by rw [hR]; exact hcVL_σ_65), (by first | (intro _; rw [hR]; exact hcTD_σ_65) | (intro z; rw [hR] at z; exact absurd z hq9) | (intro z; rw [hR] at z; exact absurd z (by first | exact tff_0 (by decide) | decide)) | fail), (by exact hcFR_σ_65)⟩)
                ·
                  refine g_iconst h dX12_aLine_168 (by decide) ?_
                  refine g_goto h dX12_aLine_169 ?_
                  exact g_zret h hQ dX12_aLine_173 (show narrow .boolean (.int (b2i true)) = .int (b2i true) from narrow_b2i _) (congrArg (fun z => some (Value.int (b2i z))) (show (decide ((ln9 x L (0, e, μ, b5, b6)).1 = 0)) = true by rw [hR]; first | rfl | exact decide_eq_true rfl | exact decide_eq_false hq9 | exact decide_eq_false (tff_0 (by decide)) | exact c115 | exact c135 | exact c165 | exact c185 | exact c208 | exact c231 | exact c251 | decide)) (by exact ⟨(by first | (rw [hR]; exact (hvσ_65).trans (by simp only [eμ_64]; exact if_neg hq9)) | (rw [hR]; exact (hvσ_65).trans (by simp only [eμ_64]; exact if_pos hq9)) | (rw [hR]; exact hvσ_65) | fail), (by first | exact ht5004_σ_65 | assumption | fail), (by rw [hR]; exact ht5005_σ_65), (by rw [hR]; exact ht5006_σ_65), (by rw [hR]; exact ht5007_σ_65), (by rw [hR]; exact ht5009_σ_65), (by first | (rw [hR]; exact ht4004_σ_65) | (rw [hR]; exact (ht4004_σ_65).trans (if_neg (by first | exact tff_0 (by decide) | decide)).symm) | fail), (by first | exact hcTX_σ_65 | assumption | fail), (by rw [hR]; exact hcVL_σ_65), (by first | (intro _; rw [hR]; exact hcTD_σ_65) | (intro z; rw [hR] at z; exact absurd z hq9) | (intro z; rw [hR] at z; exact absurd z (by first | exact tff_0 (by decide) | decide)) | fail), (by exact hcFR_σ_65)⟩)
            refine g_aload_n h dX12_aLine_144 0 rfl ?_
            refine g_iload_n h dX12_aLine_145 1 rfl ?_
            refine g_iconst h dX12_aLine_146 (by decide) ?_
            refine g_icmpN_ne h dX12_aLine_147 (by omega) (by omega) (fun c147 => ?_) (fun c147 => ?_)
            ·
              refine g_iconst h dX12_aLine_154 (by decide) ?_
              exact J155 false (by first | exact (decide_eq_true (by omega)).symm | exact (decide_eq_false (by omega)).symm | fail | fail)
            ·
              refine g_iconst h dX12_aLine_150 (by decide) ?_
              refine g_goto h dX12_aLine_151 ?_
              exact J155 true (by first | exact (decide_eq_true (by omega)).symm | exact (decide_eq_false (by omega)).symm | fail | fail)
          ·
            refine g_tsw (off := 113) (tgt := 174) h dX12_aLine_61 (nI 4) (by rw [hc61]) (by decide) (by decide) (by decide +kernel) (by decide) ?_
            refine g_aload_n h dX12_aLine_174 0 rfl ?_
            refine g_cvi (rest := []) h (r_anOff hW (txE x L e) L x p0 μ (by first | omega | assumption | fail) (by first | omega | assumption | fail) (by first | exact hvσ_53 | assumption | fail) (by assumption) (by first | exact ht5004_σ_53 | assumption | fail) (by first | exact ht5005_σ_53 | assumption | fail) (by first | exact ht5006_σ_53 | assumption | fail) (by first | exact ht5007_σ_53 | assumption | fail) (by first | exact ht5009_σ_53 | assumption | fail) (by first | exact ht4004_σ_53 | assumption | fail) (by first | exact hcTX_σ_53 | assumption | fail) (by first | exact hcVL_σ_53 | assumption | fail)) lX12_anOff mX12_263 (Nat.lt_of_lt_of_le (by decide) (Nat.le_refl _)) (by decide) sc_0 rfl rfl rfl rfl dX12_aLine_175 (fun σ_66 eσ_66 => ?_)
            obtain ⟨eσ_66_a, eσ_66_b, eσ_66_c, eσ_66_d, eσ_66_e, eσ_66_f, eσ_66_g, eσ_66_h, eσ_66_i, eσ_66_j⟩ := eσ_66
            have eσ_66_a : vw 0 σ_66 = pk0 (ar9 x L μ 4 (na9 4) 0 0 (txE x L e)).1 (EF μ 4 (txV x L (txE x L e)) (txV x L (txE x L (txE x L e))) (txV x L (txE x L (txE x L (txE x L e))))) μ := eσ_66_a
            have eσ_66_b : σ_66 5004 = (nI L) := eσ_66_b
            have eσ_66_c : σ_66 5005 = (nI (kr (txK x L (ar9 x L μ 4 (na9 4) 0 0 (txE x L e)).2))) := eσ_66_c
            have eσ_66_d : σ_66 5006 = (nI (txS x L (ar9 x L μ 4 (na9 4) 0 0 (txE x L e)).2)) := eσ_66_d
            have eσ_66_e : σ_66 5007 = (nI (txE x L (ar9 x L μ 4 (na9 4) 0 0 (txE x L e)).2)) := eσ_66_e
            have eσ_66_f : σ_66 5009 = (nI ((ar9 x L μ 4 (na9 4) 0 0 (txE x L e)).1)) := eσ_66_f
            have eσ_66_g : σ_66 4004 = (if (ar9 x L μ 4 (na9 4) 0 0 (txE x L e)).1 = 0 then p0 else nI (txS x L (ar9 x L μ 4 (na9 4) 0 0 (txE x L e)).2)) := eσ_66_g
            have eσ_66_h : TX 5600 σ_66 L x := eσ_66_h
            have eσ_66_i : VL σ_66 x L (ar9 x L μ 4 (na9 4) 0 0 (txE x L e)).2 := eσ_66_i
            have eσ_66_j : ∀ a, (464 ≤ a ∧ a ≠ 5009 ∧ a ≠ 4004 ∧ (a < 5005 ∨ 5008 < a) ∨ a = 10) → σ_66 a = σ_53 a := eσ_66_j
            have ht5004_σ_66 : σ_66 5004 = (nI L) := eσ_66_b
            have ht5005_σ_66 : σ_66 5005 = (nI (kr (txK x L (ar9 x L μ 4 (na9 4) 0 0 (txE x L e)).2))) := eσ_66_c
            have ht5006_σ_66 : σ_66 5006 = (nI (txS x L (ar9 x L μ 4 (na9 4) 0 0 (txE x L e)).2)) := eσ_66_d
            have ht5007_σ_66 : σ_66 5007 = (nI (txE x L (ar9 x L μ 4 (na9 4) 0 0 (txE x L e)).2)) := eσ_66_e
            have ht5009_σ_66 : σ_66 5009 = (nI ((ar9 x L μ 4 (na9 4) 0 0 (txE x L e)).1)) := eσ_66_f
            have ht4004_σ_66 : σ_66 4004 = (if (ar9 x L μ 4 (na9 4) 0 0 (txE x L e)).1 = 0 then p0 else nI (txS x L (ar9 x L μ 4 (na9 4) 0 0 (txE x L e)).2)) := eσ_66_g
            have hcTX_σ_66 : TX 5600 σ_66 L x := eσ_66_h
            have hcVL_σ_66 : VL σ_66 x L (ar9 x L μ 4 (na9 4) 0 0 (txE x L e)).2 := eσ_66_i
            have hcFR_σ_66 : ∀ a, (464 ≤ a ∧ a ≠ 5010 ∧ a ≠ 5009 ∧ a ≠ 4004 ∧ (a < 5005 ∨ 5008 < a) ∨ a = 10) → σ_66 a = σ a := by intro a ha; exact Eq.trans (b := σ_53 a) (eσ_66_j a (by first | omega | (simp only [vb] at *; omega))) (hcFR_σ_53 a ha)
            have hcTD_σ_66 : TD σ_66 (b5 || decide (k = 5)) (b6 || decide (k = 6)) := by exact TD.fr hcTD_σ_53 (eσ_66_j _ (by first | omega | (simp only [vb] at *; omega)))
            obtain ⟨μ_67, eμ_67⟩ : ∃ μ_67 : Nat → Int32, μ_67 = pk0 (ar9 x L μ 4 (na9 4) 0 0 (txE x L e)).1 (EF μ 4 (txV x L (txE x L e)) (txV x L (txE x L (txE x L e))) (txV x L (txE x L (txE x L (txE x L e))))) μ := ⟨_, rfl⟩
            have hvσ_66 : vw 0 σ_66 = μ_67 := by rw [eμ_67]; exact eσ_66_a
            refine g_ifB_eq h dX12_aLine_178 (fun c178 => ?_) (fun c178 => ?_)
            ·
              have hq9 : (ar9 x L μ 4 (na9 4) 0 0 (txE x L e)).1 ≠ 0 := of_decide_eq_false c178
              have hR := ln_f (b5 := b5) (b6 := b6) hK1 hW1 hnt hc61 hq9
              refine g_iconst h dX12_aLine_192 (by decide) ?_
              exact g_zret h hQ dX12_aLine_193 (show narrow .boolean (.int (b2i false)) = .int (b2i false) from narrow_b2i _) (congrArg (fun z => some (Value.int (b2i z))) (show (decide ((ln9 x L (0, e, μ, b5, b6)).1 = 0)) = false by rw [hR]; first | rfl | exact decide_eq_true rfl | exact decide_eq_false hq9 | exact decide_eq_false (tff_0 (by decide)) | exact c115 | exact c135 | exact c165 | exact c185 | exact c208 | exact c231 | exact c251 | decide)) (by exact ⟨(by first | (rw [hR]; exact (hvσ_66).trans (by simp only [eμ_67]; exact if_neg hq9)) | (rw [hR]; exact (hvσ_66).trans (by simp only [eμ_67]; exact if_pos hq9)) | (rw [hR]; exact hvσ_66) | fail), (by first | exact ht5004_σ_66 | assumption | fail), (by rw [hR]; exact ht5005_σ_66), (by rw [hR]; exact ht5006_σ_66), (by rw [hR]; exact ht5007_σ_66), (by rw [hR]; exact ht5009_σ_66), (by first | (rw [hR]; exact ht4004_σ_66) | (rw [hR]; exact (ht4004_σ_66).trans (if_neg (by first | exact tff_0 (by decide) | decide)).symm) | fail), (by first | exact hcTX_σ_66 | assumption | fail), (by rw [hR]; exact hcVL_σ_66), (by first | (intro _; rw [hR]; exact hcTD_σ_66) | (intro z; rw [hR] at z; exact absurd z hq9) | (intro z; rw [hR] at z; exact absurd z (by first | exact tff_0 (by decide) | decide)) | fail), (by exact hcFR_σ_66)⟩)
            ·
              have hq9 : (ar9 x L μ 4 (na9 4) 0 0 (txE x L e)).1 = 0 := of_decide_eq_true c178
              have hR := ln_y (b5 := b5) (b6 := b6) hK1 hW1 hnt hc61 hq9
              have hab := (ar9_b (x := x) (L := L) (μ := μ) (k := 4) (na9 4) 0 0 (txE x L e) hb.2.2).2.2
              have ht5009_σ_66 : σ_66 5009 = (nI 0) := by rw [ht5009_σ_66, hq9]
              have ht4004_σ_66 : σ_66 4004 = p0 := by rw [ht4004_σ_66, if_pos hq9]
              refine g_aload_n h dX12_aLine_181 0 rfl ?_
              refine g_cvi (rest := []) h (r_closes hW ((ar9 x L μ 4 (na9 4) 0 0 (txE x L e)).2) L x p0 (by first | omega | assumption | fail) (by first | omega | assumption | fail) (by first | exact ht5004_σ_66 | assumption | fail) (by first | exact ht5005_σ_66 | assumption | fail) (by first | exact ht5006_σ_66 | assumption | fail) (by first | exact ht5007_σ_66 | assumption | fail) (by first | exact ht5009_σ_66 | assumption | fail) (by first | exact ht4004_σ_66 | assumption | fail) (by first | exact hcTX_σ_66 | assumption | fail) (by first | exact hcVL_σ_66 | assumption | fail)) lX12_closes mX12_253 (Nat.lt_of_lt_of_le (by decide) (Nat.le_refl _)) (by decide) sc_0 rfl rfl rfl rfl dX12_aLine_182 (fun σ_68 eσ_68 => ?_)
              obtain ⟨eσ_68_a, eσ_68_b, eσ_68_c, eσ_68_d, eσ_68_e, eσ_68_f, eσ_68_g, eσ_68_h, eσ_68_i⟩ := eσ_68
              have eσ_68_a : σ_68 5004 = (nI L) := eσ_68_a
              have eσ_68_b : σ_68 5005 = (nI (kr (txK x L (cl9 x L ((ar9 x L μ 4 (na9 4) 0 0 (txE x L e)).2))))) := eσ_68_b
              have eσ_68_c : σ_68 5006 = (nI (txS x L (cl9 x L ((ar9 x L μ 4 (na9 4) 0 0 (txE x L e)).2)))) := eσ_68_c
              have eσ_68_d : σ_68 5007 = (nI (txE x L (cl9 x L ((ar9 x L μ 4 (na9 4) 0 0 (txE x L e)).2)))) := eσ_68_d
              have eσ_68_e : σ_68 5009 = (nI (tf9 (txK x L ((ar9 x L μ 4 (na9 4) 0 0 (txE x L e)).2)) 3)) := eσ_68_e
              have eσ_68_f : σ_68 4004 = (if tf9 (txK x L ((ar9 x L μ 4 (na9 4) 0 0 (txE x L e)).2)) 3 = 0 then p0 else nI (txS x L (cl9 x L ((ar9 x L μ 4 (na9 4) 0 0 (txE x L e)).2)))) := eσ_68_f
              have eσ_68_g : TX 5600 σ_68 L x := eσ_68_g
              have eσ_68_h : VL σ_68 x L (cl9 x L ((ar9 x L μ 4 (na9 4) 0 0 (txE x L e)).2)) := eσ_68_h
              have eσ_68_i : ∀ a, (a ≠ 5009 ∧ a ≠ 4004 ∧ (a < 5005 ∨ 5008 < a)) → σ_68 a = σ_66 a := eσ_68_i
              have ht5004_σ_68 : σ_68 5004 = (nI L) := eσ_68_a
              have ht5005_σ_68 : σ_68 5005 = (nI (kr (txK x L (cl9 x L ((ar9 x L μ 4 (na9 4) 0 0 (txE x L e)).2))))) := eσ_68_b
              have ht5006_σ_68 : σ_68 5006 = (nI (txS x L (cl9 x L ((ar9 x L μ 4 (na9 4) 0 0 (txE x L e)).2)))) := eσ_68_c
              have ht5007_σ_68 : σ_68 5007 = (nI (txE x L (cl9 x L ((ar9 x L μ 4 (na9 4) 0 0 (txE x L e)).2)))) := eσ_68_d
              have ht5009_σ_68 : σ_68 5009 = (nI (tf9 (txK x L ((ar9 x L μ 4 (na9 4) 0 0 (txE x L e)).2)) 3)) := eσ_68_e
              have ht4004_σ_68 : σ_68 4004 = (if tf9 (txK x L ((ar9 x L μ 4 (na9 4) 0 0 (txE x L e)).2)) 3 = 0 then p0 else nI (txS x L (cl9 x L ((ar9 x L μ 4 (na9 4) 0 0 (txE x L e)).2)))) := eσ_68_f
              have hcTX_σ_68 : TX 5600 σ_68 L x := eσ_68_g
              have hcVL_σ_68 : VL σ_68 x L (cl9 x L ((ar9 x L μ 4 (na9 4) 0 0 (txE x L e)).2)) := eσ_68_h
              have hcFR_σ_68 : ∀ a, (464 ≤ a ∧ a ≠ 5010 ∧ a ≠ 5009 ∧ a ≠ 4004 ∧ (a < 5005 ∨ 5008 < a) ∨ a = 10) → σ_68 a = σ a := by intro a ha; exact Eq.trans (b := σ_66 a) (eσ_68_i a (by first | omega | (simp only [vb] at *; omega))) (hcFR_σ_66 a ha)
              have hcTD_σ_68 : TD σ_68 (b5 || decide (k = 5)) (b6 || decide (k = 6)) := by exact TD.fr hcTD_σ_66 (eσ_68_i _ (by first | omega | (simp only [vb] at *; omega)))
              have hvσ_68 : vw 0 σ_68 = μ_67 := by rw [vw_fr (σ := σ_66) (fun j _ _ => eσ_68_i _ (by first | omega | (simp only [vb] at *; omega)))]; first | exact hvσ_66 | assumption
              refine g_ifB_eq h dX12_aLine_185 (fun c185 => ?_) (fun c185 => ?_)
              ·
                refine g_iconst h dX12_aLine_192 (by decide) ?_
                exact g_zret h hQ dX12_aLine_193 (show narrow .boolean (.int (b2i false)) = .int (b2i false) from narrow_b2i _) (congrArg (fun z => some (Value.int (b2i z))) (show (decide ((ln9 x L (0, e, μ, b5, b6)).1 = 0)) = false by rw [hR]; first | rfl | exact decide_eq_true rfl | exact decide_eq_false hq9 | exact decide_eq_false (tff_0 (by decide)) | exact c115 | exact c135 | exact c165 | exact c185 | exact c208 | exact c231 | exact c251 | decide)) (by exact ⟨(by first | (rw [hR]; exact (hvσ_68).trans (by simp only [eμ_67]; exact if_neg hq9)) | (rw [hR]; exact (hvσ_68).trans (by simp only [eμ_67]; exact if_pos hq9)) | (rw [hR]; exact hvσ_68) | fail), (by first | exact ht5004_σ_68 | assumption | fail), (by rw [hR]; exact ht5005_σ_68), (by rw [hR]; exact ht5006_σ_68), (by rw [hR]; exact ht5007_σ_68), (by rw [hR]; exact ht5009_σ_68), (by first | (rw [hR]; exact ht4004_σ_68) | (rw [hR]; exact (ht4004_σ_68).trans (if_neg (by first | exact tff_0 (by decide) | decide)).symm) | fail), (by first | exact hcTX_σ_68 | assumption | fail), (by rw [hR]; exact hcVL_σ_68), (by first | (intro _; rw [hR]; exact hcTD_σ_68) | (intro z; rw [hR] at z; exact absurd z hq9) | (intro z; rw [hR] at z; exact absurd z (by first | exact tff_0 (by decide) | decide)) | fail), (by exact hcFR_σ_68)⟩)
              ·
                refine g_iconst h dX12_aLine_188 (by decide) ?_
                refine g_goto h dX12_aLine_189 ?_
                exact g_zret h hQ dX12_aLine_193 (show narrow .boolean (.int (b2i true)) = .int (b2i true) from narrow_b2i _) (congrArg (fun z => some (Value.int (b2i z))) (show (decide ((ln9 x L (0, e, μ, b5, b6)).1 = 0)) = true by rw [hR]; first | rfl | exact decide_eq_true rfl | exact decide_eq_false hq9 | exact decide_eq_false (tff_0 (by decide)) | exact c115 | exact c135 | exact c165 | exact c185 | exact c208 | exact c231 | exact c251 | decide)) (by exact ⟨(by first | (rw [hR]; exact (hvσ_68).trans (by simp only [eμ_67]; exact if_neg hq9)) | (rw [hR]; exact (hvσ_68).trans (by simp only [eμ_67]; exact if_pos hq9)) | (rw [hR]; exact hvσ_68) | fail), (by first | exact ht5004_σ_68 | assumption | fail), (by rw [hR]; exact ht5005_σ_68), (by rw [hR]; exact ht5006_σ_68), (by rw [hR]; exact ht5007_σ_68), (by rw [hR]; exact ht5009_σ_68), (by first | (rw [hR]; exact ht4004_σ_68) | (rw [hR]; exact (ht4004_σ_68).trans (if_neg (by first | exact tff_0 (by decide) | decide)).symm) | fail), (by first | exact hcTX_σ_68 | assumption | fail), (by rw [hR]; exact hcVL_σ_68), (by first | (intro _; rw [hR]; exact hcTD_σ_68) | (intro z; rw [hR] at z; exact absurd z hq9) | (intro z; rw [hR] at z; exact absurd z (by first | exact tff_0 (by decide) | decide)) | fail), (by exact hcFR_σ_68)⟩)
          ·
            refine g_tsw (off := 133) (tgt := 194) h dX12_aLine_61 (nI 5) (by rw [hc61]) (by decide) (by decide) (by decide +kernel) (by decide) ?_
            refine g_aload_n h dX12_aLine_194 0 rfl ?_
            refine g_iconst h dX12_aLine_195 (by decide) ?_
            refine g_bipush h dX12_aLine_196 (by decide) ?_
            refine g_cvi (rest := []) h (r_aTime hW 3 9 5 (txE x L e) L x p0 μ (by first | omega | assumption | fail) (by first | omega | assumption | fail) (by first | exact hvσ_53 | assumption | fail) (by assumption) (by omega) (by first | exact ht5004_σ_53 | assumption | fail) (by first | exact ht5005_σ_53 | assumption | fail) (by first | exact ht5006_σ_53 | assumption | fail) (by first | exact ht5007_σ_53 | assumption | fail) (by first | exact ht5009_σ_53 | assumption | fail) (by first | exact ht4004_σ_53 | assumption | fail) (by first | exact hcTX_σ_53 | assumption | fail) (by first | exact hcVL_σ_53 | assumption | fail)) lX12_aTime mX12_266 (Nat.lt_of_lt_of_le (by decide) (Nat.le_refl _)) (by decide) sc_0 rfl rfl rfl rfl dX12_aLine_198 (fun σ_69 eσ_69 => ?_)
            obtain ⟨eσ_69_a, eσ_69_b, eσ_69_c, eσ_69_d, eσ_69_e, eσ_69_f, eσ_69_g, eσ_69_h, eσ_69_i, eσ_69_j⟩ := eσ_69
            have eσ_69_a : vw 0 σ_69 = pk0 (ar9 x L μ 5 (na9 5) 0 0 (txE x L e)).1 (EF μ 5 (txV x L (txE x L e)) (txV x L (txE x L (txE x L e))) (txV x L (txE x L (txE x L (txE x L e))))) μ := eσ_69_a
            have eσ_69_b : σ_69 5004 = (nI L) := eσ_69_b
            have eσ_69_c : σ_69 5005 = (nI (kr (txK x L (ar9 x L μ 5 (na9 5) 0 0 (txE x L e)).2))) := eσ_69_c
            have eσ_69_d : σ_69 5006 = (nI (txS x L (ar9 x L μ 5 (na9 5) 0 0 (txE x L e)).2)) := eσ_69_d
            have eσ_69_e : σ_69 5007 = (nI (txE x L (ar9 x L μ 5 (na9 5) 0 0 (txE x L e)).2)) := eσ_69_e
            have eσ_69_f : σ_69 5009 = (nI ((ar9 x L μ 5 (na9 5) 0 0 (txE x L e)).1)) := eσ_69_f
            have eσ_69_g : σ_69 4004 = (if (ar9 x L μ 5 (na9 5) 0 0 (txE x L e)).1 = 0 then p0 else nI (txS x L (ar9 x L μ 5 (na9 5) 0 0 (txE x L e)).2)) := eσ_69_g
            have eσ_69_h : TX 5600 σ_69 L x := eσ_69_h
            have eσ_69_i : VL σ_69 x L (ar9 x L μ 5 (na9 5) 0 0 (txE x L e)).2 := eσ_69_i
            have eσ_69_j : ∀ a, (464 ≤ a ∧ a ≠ 5009 ∧ a ≠ 4004 ∧ (a < 5005 ∨ 5008 < a) ∨ a = 10) → σ_69 a = σ_53 a := eσ_69_j
            have ht5004_σ_69 : σ_69 5004 = (nI L) := eσ_69_b
            have ht5005_σ_69 : σ_69 5005 = (nI (kr (txK x L (ar9 x L μ 5 (na9 5) 0 0 (txE x L e)).2))) := eσ_69_c
            have ht5006_σ_69 : σ_69 5006 = (nI (txS x L (ar9 x L μ 5 (na9 5) 0 0 (txE x L e)).2)) := eσ_69_d
            have ht5007_σ_69 : σ_69 5007 = (nI (txE x L (ar9 x L μ 5 (na9 5) 0 0 (txE x L e)).2)) := eσ_69_e
            have ht5009_σ_69 : σ_69 5009 = (nI ((ar9 x L μ 5 (na9 5) 0 0 (txE x L e)).1)) := eσ_69_f
            have ht4004_σ_69 : σ_69 4004 = (if (ar9 x L μ 5 (na9 5) 0 0 (txE x L e)).1 = 0 then p0 else nI (txS x L (ar9 x L μ 5 (na9 5) 0 0 (txE x L e)).2)) := eσ_69_g
            have hcTX_σ_69 : TX 5600 σ_69 L x := eσ_69_h
            have hcVL_σ_69 : VL σ_69 x L (ar9 x L μ 5 (na9 5) 0 0 (txE x L e)).2 := eσ_69_i
            have hcFR_σ_69 : ∀ a, (464 ≤ a ∧ a ≠ 5010 ∧ a ≠ 5009 ∧ a ≠ 4004 ∧ (a < 5005 ∨ 5008 < a) ∨ a = 10) → σ_69 a = σ a := by intro a ha; exact Eq.trans (b := σ_53 a) (eσ_69_j a (by first | omega | (simp only [vb] at *; omega))) (hcFR_σ_53 a ha)
            have hcTD_σ_69 : TD σ_69 (b5 || decide (k = 5)) (b6 || decide (k = 6)) := by exact TD.fr hcTD_σ_53 (eσ_69_j _ (by first | omega | (simp only [vb] at *; omega)))
            obtain ⟨μ_70, eμ_70⟩ : ∃ μ_70 : Nat → Int32, μ_70 = pk0 (ar9 x L μ 5 (na9 5) 0 0 (txE x L e)).1 (EF μ 5 (txV x L (txE x L e)) (txV x L (txE x L (txE x L e))) (txV x L (txE x L (txE x L (txE x L e))))) μ := ⟨_, rfl⟩
            have hvσ_69 : vw 0 σ_69 = μ_70 := by rw [eμ_70]; exact eσ_69_a
            refine g_ifB_eq h dX12_aLine_201 (fun c201 => ?_) (fun c201 => ?_)
            ·
              have hq9 : (ar9 x L μ 5 (na9 5) 0 0 (txE x L e)).1 ≠ 0 := of_decide_eq_false c201
              have hR := ln_f (b5 := b5) (b6 := b6) hK1 hW1 hnt hc61 hq9
              refine g_iconst h dX12_aLine_215 (by decide) ?_
              exact g_zret h hQ dX12_aLine_216 (show narrow .boolean (.int (b2i false)) = .int (b2i false) from narrow_b2i _) (congrArg (fun z => some (Value.int (b2i z))) (show (decide ((ln9 x L (0, e, μ, b5, b6)).1 = 0)) = false by rw [hR]; first | rfl | exact decide_eq_true rfl | exact decide_eq_false hq9 | exact decide_eq_false (tff_0 (by decide)) | exact c115 | exact c135 | exact c165 | exact c185 | exact c208 | exact c231 | exact c251 | decide)) (by exact ⟨(by first | (rw [hR]; exact (hvσ_69).trans (by simp only [eμ_70]; exact if_neg hq9)) | (rw [hR]; exact (hvσ_69).trans (by simp only [eμ_70]; exact if_pos hq9)) | (rw [hR]; exact hvσ_69) | fail), (by first | exact ht5004_σ_69 | assumption | fail), (by rw [hR]; exact ht5005_σ_69), (by rw [hR]; exact ht5006_σ_69), (by rw [hR]; exact ht5007_σ_69), (by rw [hR]; exact ht5009_σ_69), (by first | (rw [hR]; exact ht4004_σ_69) | (rw [hR]; exact (ht4004_σ_69).trans (if_neg (by first | exact tff_0 (by decide) | decide)).symm) | fail), (by first | exact hcTX_σ_69 | assumption | fail), (by rw [hR]; exact hcVL_σ_69), (by first | (intro _; rw [hR]; exact hcTD_σ_69) | (intro z; rw [hR] at z; exact absurd z hq9) | (intro z; rw [hR] at z; exact absurd z (by first | exact tff_0 (by decide) | decide)) | fail), (by exact hcFR_σ_69)⟩)
            ·
              have hq9 : (ar9 x L μ 5 (na9 5) 0 0 (txE x L e)).1 = 0 := of_decide_eq_true c201
              have hR := ln_y (b5 := b5) (b6 := b6) hK1 hW1 hnt hc61 hq9
              have hab := (ar9_b (x := x) (L := L) (μ := μ) (k := 5) (na9 5) 0 0 (txE x L e) hb.2.2).2.2
              have ht5009_σ_69 : σ_69 5009 = (nI 0) := by rw [ht5009_σ_69, hq9]
              have ht4004_σ_69 : σ_69 4004 = p0 := by rw [ht4004_σ_69, if_pos hq9]
              refine g_aload_n h dX12_aLine_204 0 rfl ?_
              refine g_cvi (rest := []) h (r_closes hW ((ar9 x L μ 5 (na9 5) 0 0 (txE x L e)).2) L x p0 (by first | omega | assumption | fail) (by first | omega | assumption | fail) (by first | exact ht5004_σ_69 | assumption | fail) (by first | exact ht5005_σ_69 | assumption | fail) (by first | exact ht5006_σ_69 | assumption | fail) (by first | exact ht5007_σ_69 | assumption | fail) (by first | exact ht5009_σ_69 | assumption | fail) (by first | exact ht4004_σ_69 | assumption | fail) (by first | exact hcTX_σ_69 | assumption | fail) (by first | exact hcVL_σ_69 | assumption | fail)) lX12_closes mX12_253 (Nat.lt_of_lt_of_le (by decide) (Nat.le_refl _)) (by decide) sc_0 rfl rfl rfl rfl dX12_aLine_205 (fun σ_71 eσ_71 => ?_)
              obtain ⟨eσ_71_a, eσ_71_b, eσ_71_c, eσ_71_d, eσ_71_e, eσ_71_f, eσ_71_g, eσ_71_h, eσ_71_i⟩ := eσ_71
              have eσ_71_a : σ_71 5004 = (nI L) := eσ_71_a
              have eσ_71_b : σ_71 5005 = (nI (kr (txK x L (cl9 x L ((ar9 x L μ 5 (na9 5) 0 0 (txE x L e)).2))))) := eσ_71_b
              have eσ_71_c : σ_71 5006 = (nI (txS x L (cl9 x L ((ar9 x L μ 5 (na9 5) 0 0 (txE x L e)).2)))) := eσ_71_c
              have eσ_71_d : σ_71 5007 = (nI (txE x L (cl9 x L ((ar9 x L μ 5 (na9 5) 0 0 (txE x L e)).2)))) := eσ_71_d
              have eσ_71_e : σ_71 5009 = (nI (tf9 (txK x L ((ar9 x L μ 5 (na9 5) 0 0 (txE x L e)).2)) 3)) := eσ_71_e
              have eσ_71_f : σ_71 4004 = (if tf9 (txK x L ((ar9 x L μ 5 (na9 5) 0 0 (txE x L e)).2)) 3 = 0 then p0 else nI (txS x L (cl9 x L ((ar9 x L μ 5 (na9 5) 0 0 (txE x L e)).2)))) := eσ_71_f
              have eσ_71_g : TX 5600 σ_71 L x := eσ_71_g
              have eσ_71_h : VL σ_71 x L (cl9 x L ((ar9 x L μ 5 (na9 5) 0 0 (txE x L e)).2)) := eσ_71_h
              have eσ_71_i : ∀ a, (a ≠ 5009 ∧ a ≠ 4004 ∧ (a < 5005 ∨ 5008 < a)) → σ_71 a = σ_69 a := eσ_71_i
              have ht5004_σ_71 : σ_71 5004 = (nI L) := eσ_71_a
              have ht5005_σ_71 : σ_71 5005 = (nI (kr (txK x L (cl9 x L ((ar9 x L μ 5 (na9 5) 0 0 (txE x L e)).2))))) := eσ_71_b
              have ht5006_σ_71 : σ_71 5006 = (nI (txS x L (cl9 x L ((ar9 x L μ 5 (na9 5) 0 0 (txE x L e)).2)))) := eσ_71_c
              have ht5007_σ_71 : σ_71 5007 = (nI (txE x L (cl9 x L ((ar9 x L μ 5 (na9 5) 0 0 (txE x L e)).2)))) := eσ_71_d
              have ht5009_σ_71 : σ_71 5009 = (nI (tf9 (txK x L ((ar9 x L μ 5 (na9 5) 0 0 (txE x L e)).2)) 3)) := eσ_71_e
              have ht4004_σ_71 : σ_71 4004 = (if tf9 (txK x L ((ar9 x L μ 5 (na9 5) 0 0 (txE x L e)).2)) 3 = 0 then p0 else nI (txS x L (cl9 x L ((ar9 x L μ 5 (na9 5) 0 0 (txE x L e)).2)))) := eσ_71_f
              have hcTX_σ_71 : TX 5600 σ_71 L x := eσ_71_g
              have hcVL_σ_71 : VL σ_71 x L (cl9 x L ((ar9 x L μ 5 (na9 5) 0 0 (txE x L e)).2)) := eσ_71_h
              have hcFR_σ_71 : ∀ a, (464 ≤ a ∧ a ≠ 5010 ∧ a ≠ 5009 ∧ a ≠ 4004 ∧ (a < 5005 ∨ 5008 < a) ∨ a = 10) → σ_71 a = σ a := by intro a ha; exact Eq.trans (b := σ_69 a) (eσ_71_i a (by first | omega | (simp only [vb] at *; omega))) (hcFR_σ_69 a ha)
              have hcTD_σ_71 : TD σ_71 (b5 || decide (k = 5)) (b6 || decide (k = 6)) := by exact TD.fr hcTD_σ_69 (eσ_71_i _ (by first | omega | (simp only [vb] at *; omega)))
              have hvσ_71 : vw 0 σ_71 = μ_70 := by rw [vw_fr (σ := σ_69) (fun j _ _ => eσ_71_i _ (by first | omega | (simp only [vb] at *; omega)))]; first | exact hvσ_69 | assumption
              refine g_ifB_eq h dX12_aLine_208 (fun c208 => ?_) (fun c208 => ?_)
              ·
                refine g_iconst h dX12_aLine_215 (by decide) ?_
                exact g_zret h hQ dX12_aLine_216 (show narrow .boolean (.int (b2i false)) = .int (b2i false) from narrow_b2i _) (congrArg (fun z => some (Value.int (b2i z))) (show (decide ((ln9 x L (0, e, μ, b5, b6)).1 = 0)) = false by rw [hR]; first | rfl | exact decide_eq_true rfl | exact decide_eq_false hq9 | exact decide_eq_false (tff_0 (by decide)) | exact c115 | exact c135 | exact c165 | exact c185 | exact c208 | exact c231 | exact c251 | decide)) (by exact ⟨(by first | (rw [hR]; exact (hvσ_71).trans (by simp only [eμ_70]; exact if_neg hq9)) | (rw [hR]; exact (hvσ_71).trans (by simp only [eμ_70]; exact if_pos hq9)) | (rw [hR]; exact hvσ_71) | fail), (by first | exact ht5004_σ_71 | assumption | fail), (by rw [hR]; exact ht5005_σ_71), (by rw [hR]; exact ht5006_σ_71), (by rw [hR]; exact ht5007_σ_71), (by rw [hR]; exact ht5009_σ_71), (by first | (rw [hR]; exact ht4004_σ_71) | (rw [hR]; exact (ht4004_σ_71).trans (if_neg (by first | exact tff_0 (by decide) | decide)).symm) | fail), (by first | exact hcTX_σ_71 | assumption | fail), (by rw [hR]; exact hcVL_σ_71), (by first | (intro _; rw [hR]; exact hcTD_σ_71) | (intro z; rw [hR] at z; exact absurd z hq9) | (intro z; rw [hR] at z; exact absurd z (by first | exact tff_0 (by decide) | decide)) | fail), (by exact hcFR_σ_71)⟩)
              ·
                refine g_iconst h dX12_aLine_211 (by decide) ?_
                refine g_goto h dX12_aLine_212 ?_
                exact g_zret h hQ dX12_aLine_216 (show narrow .boolean (.int (b2i true)) = .int (b2i true) from narrow_b2i _) (congrArg (fun z => some (Value.int (b2i z))) (show (decide ((ln9 x L (0, e, μ, b5, b6)).1 = 0)) = true by rw [hR]; first | rfl | exact decide_eq_true rfl | exact decide_eq_false hq9 | exact decide_eq_false (tff_0 (by decide)) | exact c115 | exact c135 | exact c165 | exact c185 | exact c208 | exact c231 | exact c251 | decide)) (by exact ⟨(by first | (rw [hR]; exact (hvσ_71).trans (by simp only [eμ_70]; exact if_neg hq9)) | (rw [hR]; exact (hvσ_71).trans (by simp only [eμ_70]; exact if_pos hq9)) | (rw [hR]; exact hvσ_71) | fail), (by first | exact ht5004_σ_71 | assumption | fail), (by rw [hR]; exact ht5005_σ_71), (by rw [hR]; exact ht5006_σ_71), (by rw [hR]; exact ht5007_σ_71), (by rw [hR]; exact ht5009_σ_71), (by first | (rw [hR]; exact ht4004_σ_71) | (rw [hR]; exact (ht4004_σ_71).trans (if_neg (by first | exact tff_0 (by decide) | decide)).symm) | fail), (by first | exact hcTX_σ_71 | assumption | fail), (by rw [hR]; exact hcVL_σ_71), (by first | (intro _; rw [hR]; exact hcTD_σ_71) | (intro z; rw [hR] at z; exact absurd z hq9) | (intro z; rw [hR] at z; exact absurd z (by first | exact tff_0 (by decide) | decide)) | fail), (by exact hcFR_σ_71)⟩)
          ·
            refine g_tsw (off := 156) (tgt := 217) h dX12_aLine_61 (nI 6) (by rw [hc61]) (by decide) (by decide) (by decide +kernel) (by decide) ?_
            refine g_aload_n h dX12_aLine_217 0 rfl ?_
            refine g_iconst h dX12_aLine_218 (by decide) ?_
            refine g_bipush h dX12_aLine_219 (by decide) ?_
            refine g_cvi (rest := []) h (r_aTime hW 4 99 6 (txE x L e) L x p0 μ (by first | omega | assumption | fail) (by first | omega | assumption | fail) (by first | exact hvσ_53 | assumption | fail) (by assumption) (by omega) (by first | exact ht5004_σ_53 | assumption | fail) (by first | exact ht5005_σ_53 | assumption | fail) (by first | exact ht5006_σ_53 | assumption | fail) (by first | exact ht5007_σ_53 | assumption | fail) (by first | exact ht5009_σ_53 | assumption | fail) (by first | exact ht4004_σ_53 | assumption | fail) (by first | exact hcTX_σ_53 | assumption | fail) (by first | exact hcVL_σ_53 | assumption | fail)) lX12_aTime mX12_266 (Nat.lt_of_lt_of_le (by decide) (Nat.le_refl _)) (by decide) sc_0 rfl rfl rfl rfl dX12_aLine_221 (fun σ_72 eσ_72 => ?_)
            obtain ⟨eσ_72_a, eσ_72_b, eσ_72_c, eσ_72_d, eσ_72_e, eσ_72_f, eσ_72_g, eσ_72_h, eσ_72_i, eσ_72_j⟩ := eσ_72
            have eσ_72_a : vw 0 σ_72 = pk0 (ar9 x L μ 6 (na9 6) 0 0 (txE x L e)).1 (EF μ 6 (txV x L (txE x L e)) (txV x L (txE x L (txE x L e))) (txV x L (txE x L (txE x L (txE x L e))))) μ := eσ_72_a
            have eσ_72_b : σ_72 5004 = (nI L) := eσ_72_b
            have eσ_72_c : σ_72 5005 = (nI (kr (txK x L (ar9 x L μ 6 (na9 6) 0 0 (txE x L e)).2))) := eσ_72_c
            have eσ_72_d : σ_72 5006 = (nI (txS x L (ar9 x L μ 6 (na9 6) 0 0 (txE x L e)).2)) := eσ_72_d
            have eσ_72_e : σ_72 5007 = (nI (txE x L (ar9 x L μ 6 (na9 6) 0 0 (txE x L e)).2)) := eσ_72_e
            have eσ_72_f : σ_72 5009 = (nI ((ar9 x L μ 6 (na9 6) 0 0 (txE x L e)).1)) := eσ_72_f
            have eσ_72_g : σ_72 4004 = (if (ar9 x L μ 6 (na9 6) 0 0 (txE x L e)).1 = 0 then p0 else nI (txS x L (ar9 x L μ 6 (na9 6) 0 0 (txE x L e)).2)) := eσ_72_g
            have eσ_72_h : TX 5600 σ_72 L x := eσ_72_h
            have eσ_72_i : VL σ_72 x L (ar9 x L μ 6 (na9 6) 0 0 (txE x L e)).2 := eσ_72_i
            have eσ_72_j : ∀ a, (464 ≤ a ∧ a ≠ 5009 ∧ a ≠ 4004 ∧ (a < 5005 ∨ 5008 < a) ∨ a = 10) → σ_72 a = σ_53 a := eσ_72_j
            have ht5004_σ_72 : σ_72 5004 = (nI L) := eσ_72_b
            have ht5005_σ_72 : σ_72 5005 = (nI (kr (txK x L (ar9 x L μ 6 (na9 6) 0 0 (txE x L e)).2))) := eσ_72_c
            have ht5006_σ_72 : σ_72 5006 = (nI (txS x L (ar9 x L μ 6 (na9 6) 0 0 (txE x L e)).2)) := eσ_72_d
            have ht5007_σ_72 : σ_72 5007 = (nI (txE x L (ar9 x L μ 6 (na9 6) 0 0 (txE x L e)).2)) := eσ_72_e
            have ht5009_σ_72 : σ_72 5009 = (nI ((ar9 x L μ 6 (na9 6) 0 0 (txE x L e)).1)) := eσ_72_f
            have ht4004_σ_72 : σ_72 4004 = (if (ar9 x L μ 6 (na9 6) 0 0 (txE x L e)).1 = 0 then p0 else nI (txS x L (ar9 x L μ 6 (na9 6) 0 0 (txE x L e)).2)) := eσ_72_g
            have hcTX_σ_72 : TX 5600 σ_72 L x := eσ_72_h
            have hcVL_σ_72 : VL σ_72 x L (ar9 x L μ 6 (na9 6) 0 0 (txE x L e)).2 := eσ_72_i
            have hcFR_σ_72 : ∀ a, (464 ≤ a ∧ a ≠ 5010 ∧ a ≠ 5009 ∧ a ≠ 4004 ∧ (a < 5005 ∨ 5008 < a) ∨ a = 10) → σ_72 a = σ a := by intro a ha; exact Eq.trans (b := σ_53 a) (eσ_72_j a (by first | omega | (simp only [vb] at *; omega))) (hcFR_σ_53 a ha)
            have hcTD_σ_72 : TD σ_72 (b5 || decide (k = 5)) (b6 || decide (k = 6)) := by exact TD.fr hcTD_σ_53 (eσ_72_j _ (by first | omega | (simp only [vb] at *; omega)))
            obtain ⟨μ_73, eμ_73⟩ : ∃ μ_73 : Nat → Int32, μ_73 = pk0 (ar9 x L μ 6 (na9 6) 0 0 (txE x L e)).1 (EF μ 6 (txV x L (txE x L e)) (txV x L (txE x L (txE x L e))) (txV x L (txE x L (txE x L (txE x L e))))) μ := ⟨_, rfl⟩
            have hvσ_72 : vw 0 σ_72 = μ_73 := by rw [eμ_73]; exact eσ_72_a
            refine g_ifB_eq h dX12_aLine_224 (fun c224 => ?_) (fun c224 => ?_)
            ·
              have hq9 : (ar9 x L μ 6 (na9 6) 0 0 (txE x L e)).1 ≠ 0 := of_decide_eq_false c224
              have hR := ln_f (b5 := b5) (b6 := b6) hK1 hW1 hnt hc61 hq9
              refine g_iconst h dX12_aLine_238 (by decide) ?_
              exact g_zret h hQ dX12_aLine_239 (show narrow .boolean (.int (b2i false)) = .int (b2i false) from narrow_b2i _) (congrArg (fun z => some (Value.int (b2i z))) (show (decide ((ln9 x L (0, e, μ, b5, b6)).1 = 0)) = false by rw [hR]; first | rfl | exact decide_eq_true rfl | exact decide_eq_false hq9 | exact decide_eq_false (tff_0 (by decide)) | exact c115 | exact c135 | exact c165 | exact c185 | exact c208 | exact c231 | exact c251 | decide)) (by exact ⟨(by first | (rw [hR]; exact (hvσ_72).trans (by simp only [eμ_73]; exact if_neg hq9)) | (rw [hR]; exact (hvσ_72).trans (by simp only [eμ_73]; exact if_pos hq9)) | (rw [hR]; exact hvσ_72) | fail), (by first | exact ht5004_σ_72 | assumption | fail), (by rw [hR]; exact ht5005_σ_72), (by rw [hR]; exact ht5006_σ_72), (by rw [hR]; exact ht5007_σ_72), (by rw [hR]; exact ht5009_σ_72), (by first | (rw [hR]; exact ht4004_σ_72) | (rw [hR]; exact (ht4004_σ_72).trans (if_neg (by first | exact tff_0 (by decide) | decide)).symm) | fail), (by first | exact hcTX_σ_72 | assumption | fail), (by rw [hR]; exact hcVL_σ_72), (by first | (intro _; rw [hR]; exact hcTD_σ_72) | (intro z; rw [hR] at z; exact absurd z hq9) | (intro z; rw [hR] at z; exact absurd z (by first | exact tff_0 (by decide) | decide)) | fail), (by exact hcFR_σ_72)⟩)
            ·
              have hq9 : (ar9 x L μ 6 (na9 6) 0 0 (txE x L e)).1 = 0 := of_decide_eq_true c224
              have hR := ln_y (b5 := b5) (b6 := b6) hK1 hW1 hnt hc61 hq9
              have hab := (ar9_b (x := x) (L := L) (μ := μ) (k := 6) (na9 6) 0 0 (txE x L e) hb.2.2).2.2
              have ht5009_σ_72 : σ_72 5009 = (nI 0) := by rw [ht5009_σ_72, hq9]
              have ht4004_σ_72 : σ_72 4004 = p0 := by rw [ht4004_σ_72, if_pos hq9]
              refine g_aload_n h dX12_aLine_227 0 rfl ?_
              refine g_cvi (rest := []) h (r_closes hW ((ar9 x L μ 6 (na9 6) 0 0 (txE x L e)).2) L x p0 (by first | omega | assumption | fail) (by first | omega | assumption | fail) (by first | exact ht5004_σ_72 | assumption | fail) (by first | exact ht5005_σ_72 | assumption | fail) (by first | exact ht5006_σ_72 | assumption | fail) (by first | exact ht5007_σ_72 | assumption | fail) (by first | exact ht5009_σ_72 | assumption | fail) (by first | exact ht4004_σ_72 | assumption | fail) (by first | exact hcTX_σ_72 | assumption | fail) (by first | exact hcVL_σ_72 | assumption | fail)) lX12_closes mX12_253 (Nat.lt_of_lt_of_le (by decide) (Nat.le_refl _)) (by decide) sc_0 rfl rfl rfl rfl dX12_aLine_228 (fun σ_74 eσ_74 => ?_)
              obtain ⟨eσ_74_a, eσ_74_b, eσ_74_c, eσ_74_d, eσ_74_e, eσ_74_f, eσ_74_g, eσ_74_h, eσ_74_i⟩ := eσ_74
              have eσ_74_a : σ_74 5004 = (nI L) := eσ_74_a
              have eσ_74_b : σ_74 5005 = (nI (kr (txK x L (cl9 x L ((ar9 x L μ 6 (na9 6) 0 0 (txE x L e)).2))))) := eσ_74_b
              have eσ_74_c : σ_74 5006 = (nI (txS x L (cl9 x L ((ar9 x L μ 6 (na9 6) 0 0 (txE x L e)).2)))) := eσ_74_c
              have eσ_74_d : σ_74 5007 = (nI (txE x L (cl9 x L ((ar9 x L μ 6 (na9 6) 0 0 (txE x L e)).2)))) := eσ_74_d
              have eσ_74_e : σ_74 5009 = (nI (tf9 (txK x L ((ar9 x L μ 6 (na9 6) 0 0 (txE x L e)).2)) 3)) := eσ_74_e
              have eσ_74_f : σ_74 4004 = (if tf9 (txK x L ((ar9 x L μ 6 (na9 6) 0 0 (txE x L e)).2)) 3 = 0 then p0 else nI (txS x L (cl9 x L ((ar9 x L μ 6 (na9 6) 0 0 (txE x L e)).2)))) := eσ_74_f
              have eσ_74_g : TX 5600 σ_74 L x := eσ_74_g
              have eσ_74_h : VL σ_74 x L (cl9 x L ((ar9 x L μ 6 (na9 6) 0 0 (txE x L e)).2)) := eσ_74_h
              have eσ_74_i : ∀ a, (a ≠ 5009 ∧ a ≠ 4004 ∧ (a < 5005 ∨ 5008 < a)) → σ_74 a = σ_72 a := eσ_74_i
              have ht5004_σ_74 : σ_74 5004 = (nI L) := eσ_74_a
              have ht5005_σ_74 : σ_74 5005 = (nI (kr (txK x L (cl9 x L ((ar9 x L μ 6 (na9 6) 0 0 (txE x L e)).2))))) := eσ_74_b
              have ht5006_σ_74 : σ_74 5006 = (nI (txS x L (cl9 x L ((ar9 x L μ 6 (na9 6) 0 0 (txE x L e)).2)))) := eσ_74_c
              have ht5007_σ_74 : σ_74 5007 = (nI (txE x L (cl9 x L ((ar9 x L μ 6 (na9 6) 0 0 (txE x L e)).2)))) := eσ_74_d
              have ht5009_σ_74 : σ_74 5009 = (nI (tf9 (txK x L ((ar9 x L μ 6 (na9 6) 0 0 (txE x L e)).2)) 3)) := eσ_74_e
              have ht4004_σ_74 : σ_74 4004 = (if tf9 (txK x L ((ar9 x L μ 6 (na9 6) 0 0 (txE x L e)).2)) 3 = 0 then p0 else nI (txS x L (cl9 x L ((ar9 x L μ 6 (na9 6) 0 0 (txE x L e)).2)))) := eσ_74_f
              have hcTX_σ_74 : TX 5600 σ_74 L x := eσ_74_g
              have hcVL_σ_74 : VL σ_74 x L (cl9 x L ((ar9 x L μ 6 (na9 6) 0 0 (txE x L e)).2)) := eσ_74_h
              have hcFR_σ_74 : ∀ a, (464 ≤ a ∧ a ≠ 5010 ∧ a ≠ 5009 ∧ a ≠ 4004 ∧ (a < 5005 ∨ 5008 < a) ∨ a = 10) → σ_74 a = σ a := by intro a ha; exact Eq.trans (b := σ_72 a) (eσ_74_i a (by first | omega | (simp only [vb] at *; omega))) (hcFR_σ_72 a ha)
              have hcTD_σ_74 : TD σ_74 (b5 || decide (k = 5)) (b6 || decide (k = 6)) := by exact TD.fr hcTD_σ_72 (eσ_74_i _ (by first | omega | (simp only [vb] at *; omega)))
              have hvσ_74 : vw 0 σ_74 = μ_73 := by rw [vw_fr (σ := σ_72) (fun j _ _ => eσ_74_i _ (by first | omega | (simp only [vb] at *; omega)))]; first | exact hvσ_72 | assumption
              refine g_ifB_eq h dX12_aLine_231 (fun c231 => ?_) (fun c231 => ?_)
              ·
                refine g_iconst h dX12_aLine_238 (by decide) ?_
                exact g_zret h hQ dX12_aLine_239 (show narrow .boolean (.int (b2i false)) = .int (b2i false) from narrow_b2i _) (congrArg (fun z => some (Value.int (b2i z))) (show (decide ((ln9 x L (0, e, μ, b5, b6)).1 = 0)) = false by rw [hR]; first | rfl | exact decide_eq_true rfl | exact decide_eq_false hq9 | exact decide_eq_false (tff_0 (by decide)) | exact c115 | exact c135 | exact c165 | exact c185 | exact c208 | exact c231 | exact c251 | decide)) (by exact ⟨(by first | (rw [hR]; exact (hvσ_74).trans (by simp only [eμ_73]; exact if_neg hq9)) | (rw [hR]; exact (hvσ_74).trans (by simp only [eμ_73]; exact if_pos hq9)) | (rw [hR]; exact hvσ_74) | fail), (by first | exact ht5004_σ_74 | assumption | fail), (by rw [hR]; exact ht5005_σ_74), (by rw [hR]; exact ht5006_σ_74), (by rw [hR]; exact ht5007_σ_74), (by rw [hR]; exact ht5009_σ_74), (by first | (rw [hR]; exact ht4004_σ_74) | (rw [hR]; exact (ht4004_σ_74).trans (if_neg (by first | exact tff_0 (by decide) | decide)).symm) | fail), (by first | exact hcTX_σ_74 | assumption | fail), (by rw [hR]; exact hcVL_σ_74), (by first | (intro _; rw [hR]; exact hcTD_σ_74) | (intro z; rw [hR] at z; exact absurd z hq9) | (intro z; rw [hR] at z; exact absurd z (by first | exact tff_0 (by decide) | decide)) | fail), (by exact hcFR_σ_74)⟩)
              ·
                refine g_iconst h dX12_aLine_234 (by decide) ?_
                refine g_goto h dX12_aLine_235 ?_
                exact g_zret h hQ dX12_aLine_239 (show narrow .boolean (.int (b2i true)) = .int (b2i true) from narrow_b2i _) (congrArg (fun z => some (Value.int (b2i z))) (show (decide ((ln9 x L (0, e, μ, b5, b6)).1 = 0)) = true by rw [hR]; first | rfl | exact decide_eq_true rfl | exact decide_eq_false hq9 | exact decide_eq_false (tff_0 (by decide)) | exact c115 | exact c135 | exact c165 | exact c185 | exact c208 | exact c231 | exact c251 | decide)) (by exact ⟨(by first | (rw [hR]; exact (hvσ_74).trans (by simp only [eμ_73]; exact if_neg hq9)) | (rw [hR]; exact (hvσ_74).trans (by simp only [eμ_73]; exact if_pos hq9)) | (rw [hR]; exact hvσ_74) | fail), (by first | exact ht5004_σ_74 | assumption | fail), (by rw [hR]; exact ht5005_σ_74), (by rw [hR]; exact ht5006_σ_74), (by rw [hR]; exact ht5007_σ_74), (by rw [hR]; exact ht5009_σ_74), (by first | (rw [hR]; exact ht4004_σ_74) | (rw [hR]; exact (ht4004_σ_74).trans (if_neg (by first | exact tff_0 (by decide) | decide)).symm) | fail), (by first | exact hcTX_σ_74 | assumption | fail), (by rw [hR]; exact hcVL_σ_74), (by first | (intro _; rw [hR]; exact hcTD_σ_74) | (intro z; rw [hR] at z; exact absurd z hq9) | (intro z; rw [hR] at z; exact absurd z (by first | exact tff_0 (by decide) | decide)) | fail), (by exact hcFR_σ_74)⟩)
          ·
            refine g_tswOut (tgt := 240) h dX12_aLine_61 (by rw [hc61]; decide) (by decide) ?_
            refine g_aload_n h dX12_aLine_240 0 rfl ?_
            refine g_cvi (rest := []) h (r_aJam hW (txE x L e) L x p0 μ (by first | omega | assumption | fail) (by first | omega | assumption | fail) (by first | exact hvσ_53 | assumption | fail) (by assumption) (by first | exact ht5004_σ_53 | assumption | fail) (by first | exact ht5005_σ_53 | assumption | fail) (by first | exact ht5006_σ_53 | assumption | fail) (by first | exact ht5007_σ_53 | assumption | fail) (by first | exact ht5009_σ_53 | assumption | fail) (by first | exact ht4004_σ_53 | assumption | fail) (by first | exact hcTX_σ_53 | assumption | fail) (by first | exact hcVL_σ_53 | assumption | fail)) lX12_aJam mX12_269 (Nat.lt_of_lt_of_le (by decide) (Nat.le_refl _)) (by decide) sc_0 rfl rfl rfl rfl dX12_aLine_241 (fun σ_75 eσ_75 => ?_)
            obtain ⟨eσ_75_a, eσ_75_b, eσ_75_c, eσ_75_d, eσ_75_e, eσ_75_f, eσ_75_g, eσ_75_h, eσ_75_i, eσ_75_j⟩ := eσ_75
            have eσ_75_a : vw 0 σ_75 = pk0 (ar9 x L μ 7 (na9 7) 0 0 (txE x L e)).1 (EF μ 7 (txV x L (txE x L e)) (txV x L (txE x L (txE x L e))) (txV x L (txE x L (txE x L (txE x L e))))) μ := eσ_75_a
            have eσ_75_b : σ_75 5004 = (nI L) := eσ_75_b
            have eσ_75_c : σ_75 5005 = (nI (kr (txK x L (ar9 x L μ 7 (na9 7) 0 0 (txE x L e)).2))) := eσ_75_c
            have eσ_75_d : σ_75 5006 = (nI (txS x L (ar9 x L μ 7 (na9 7) 0 0 (txE x L e)).2)) := eσ_75_d
            have eσ_75_e : σ_75 5007 = (nI (txE x L (ar9 x L μ 7 (na9 7) 0 0 (txE x L e)).2)) := eσ_75_e
            have eσ_75_f : σ_75 5009 = (nI ((ar9 x L μ 7 (na9 7) 0 0 (txE x L e)).1)) := eσ_75_f
            have eσ_75_g : σ_75 4004 = (if (ar9 x L μ 7 (na9 7) 0 0 (txE x L e)).1 = 0 then p0 else nI (txS x L (ar9 x L μ 7 (na9 7) 0 0 (txE x L e)).2)) := eσ_75_g
            have eσ_75_h : TX 5600 σ_75 L x := eσ_75_h
            have eσ_75_i : VL σ_75 x L (ar9 x L μ 7 (na9 7) 0 0 (txE x L e)).2 := eσ_75_i
            have eσ_75_j : ∀ a, (464 ≤ a ∧ a ≠ 5009 ∧ a ≠ 4004 ∧ (a < 5005 ∨ 5008 < a) ∨ a = 10) → σ_75 a = σ_53 a := eσ_75_j
            have ht5004_σ_75 : σ_75 5004 = (nI L) := eσ_75_b
            have ht5005_σ_75 : σ_75 5005 = (nI (kr (txK x L (ar9 x L μ 7 (na9 7) 0 0 (txE x L e)).2))) := eσ_75_c
            have ht5006_σ_75 : σ_75 5006 = (nI (txS x L (ar9 x L μ 7 (na9 7) 0 0 (txE x L e)).2)) := eσ_75_d
            have ht5007_σ_75 : σ_75 5007 = (nI (txE x L (ar9 x L μ 7 (na9 7) 0 0 (txE x L e)).2)) := eσ_75_e
            have ht5009_σ_75 : σ_75 5009 = (nI ((ar9 x L μ 7 (na9 7) 0 0 (txE x L e)).1)) := eσ_75_f
            have ht4004_σ_75 : σ_75 4004 = (if (ar9 x L μ 7 (na9 7) 0 0 (txE x L e)).1 = 0 then p0 else nI (txS x L (ar9 x L μ 7 (na9 7) 0 0 (txE x L e)).2)) := eσ_75_g
            have hcTX_σ_75 : TX 5600 σ_75 L x := eσ_75_h
            have hcVL_σ_75 : VL σ_75 x L (ar9 x L μ 7 (na9 7) 0 0 (txE x L e)).2 := eσ_75_i
            have hcFR_σ_75 : ∀ a, (464 ≤ a ∧ a ≠ 5010 ∧ a ≠ 5009 ∧ a ≠ 4004 ∧ (a < 5005 ∨ 5008 < a) ∨ a = 10) → σ_75 a = σ a := by intro a ha; exact Eq.trans (b := σ_53 a) (eσ_75_j a (by first | omega | (simp only [vb] at *; omega))) (hcFR_σ_53 a ha)
            have hcTD_σ_75 : TD σ_75 (b5 || decide (k = 5)) (b6 || decide (k = 6)) := by exact TD.fr hcTD_σ_53 (eσ_75_j _ (by first | omega | (simp only [vb] at *; omega)))
            obtain ⟨μ_76, eμ_76⟩ : ∃ μ_76 : Nat → Int32, μ_76 = pk0 (ar9 x L μ 7 (na9 7) 0 0 (txE x L e)).1 (EF μ 7 (txV x L (txE x L e)) (txV x L (txE x L (txE x L e))) (txV x L (txE x L (txE x L (txE x L e))))) μ := ⟨_, rfl⟩
            have hvσ_75 : vw 0 σ_75 = μ_76 := by rw [eμ_76]; exact eσ_75_a
            refine g_ifB_eq h dX12_aLine_244 (fun c244 => ?_) (fun c244 => ?_)
            ·
              have hq9 : (ar9 x L μ 7 (na9 7) 0 0 (txE x L e)).1 ≠ 0 := of_decide_eq_false c244
              have hR := ln_f (b5 := b5) (b6 := b6) hK1 hW1 hnt hc61 hq9
              refine g_iconst h dX12_aLine_258 (by decide) ?_
              exact g_zret h hQ dX12_aLine_259 (show narrow .boolean (.int (b2i false)) = .int (b2i false) from narrow_b2i _) (congrArg (fun z => some (Value.int (b2i z))) (show (decide ((ln9 x L (0, e, μ, b5, b6)).1 = 0)) = false by rw [hR]; first | rfl | exact decide_eq_true rfl | exact decide_eq_false hq9 | exact decide_eq_false (tff_0 (by decide)) | exact c115 | exact c135 | exact c165 | exact c185 | exact c208 | exact c231 | exact c251 | decide)) (by exact ⟨(by first | (rw [hR]; exact (hvσ_75).trans (by simp only [eμ_76]; exact if_neg hq9)) | (rw [hR]; exact (hvσ_75).trans (by simp only [eμ_76]; exact if_pos hq9)) | (rw [hR]; exact hvσ_75) | fail), (by first | exact ht5004_σ_75 | assumption | fail), (by rw [hR]; exact ht5005_σ_75), (by rw [hR]; exact ht5006_σ_75), (by rw [hR]; exact ht5007_σ_75), (by rw [hR]; exact ht5009_σ_75), (by first | (rw [hR]; exact ht4004_σ_75) | (rw [hR]; exact (ht4004_σ_75).trans (if_neg (by first | exact tff_0 (by decide) | decide)).symm) | fail), (by first | exact hcTX_σ_75 | assumption | fail), (by rw [hR]; exact hcVL_σ_75), (by first | (intro _; rw [hR]; exact hcTD_σ_75) | (intro z; rw [hR] at z; exact absurd z hq9) | (intro z; rw [hR] at z; exact absurd z (by first | exact tff_0 (by decide) | decide)) | fail), (by exact hcFR_σ_75)⟩)
            ·
              have hq9 : (ar9 x L μ 7 (na9 7) 0 0 (txE x L e)).1 = 0 := of_decide_eq_true c244
              have hR := ln_y (b5 := b5) (b6 := b6) hK1 hW1 hnt hc61 hq9
              have hab := (ar9_b (x := x) (L := L) (μ := μ) (k := 7) (na9 7) 0 0 (txE x L e) hb.2.2).2.2
              have ht5009_σ_75 : σ_75 5009 = (nI 0) := by rw [ht5009_σ_75, hq9]
              have ht4004_σ_75 : σ_75 4004 = p0 := by rw [ht4004_σ_75, if_pos hq9]
              refine g_aload_n h dX12_aLine_247 0 rfl ?_
              refine g_cvi (rest := []) h (r_closes hW ((ar9 x L μ 7 (na9 7) 0 0 (txE x L e)).2) L x p0 (by first | omega | assumption | fail) (by first | omega | assumption | fail) (by first | exact ht5004_σ_75 | assumption | fail) (by first | exact ht5005_σ_75 | assumption | fail) (by first | exact ht5006_σ_75 | assumption | fail) (by first | exact ht5007_σ_75 | assumption | fail) (by first | exact ht5009_σ_75 | assumption | fail) (by first | exact ht4004_σ_75 | assumption | fail) (by first | exact hcTX_σ_75 | assumption | fail) (by first | exact hcVL_σ_75 | assumption | fail)) lX12_closes mX12_253 (Nat.lt_of_lt_of_le (by decide) (Nat.le_refl _)) (by decide) sc_0 rfl rfl rfl rfl dX12_aLine_248 (fun σ_77 eσ_77 => ?_)
              obtain ⟨eσ_77_a, eσ_77_b, eσ_77_c, eσ_77_d, eσ_77_e, eσ_77_f, eσ_77_g, eσ_77_h, eσ_77_i⟩ := eσ_77
              have eσ_77_a : σ_77 5004 = (nI L) := eσ_77_a
              have eσ_77_b : σ_77 5005 = (nI (kr (txK x L (cl9 x L ((ar9 x L μ 7 (na9 7) 0 0 (txE x L e)).2))))) := eσ_77_b
              have eσ_77_c : σ_77 5006 = (nI (txS x L (cl9 x L ((ar9 x L μ 7 (na9 7) 0 0 (txE x L e)).2)))) := eσ_77_c
              have eσ_77_d : σ_77 5007 = (nI (txE x L (cl9 x L ((ar9 x L μ 7 (na9 7) 0 0 (txE x L e)).2)))) := eσ_77_d
              have eσ_77_e : σ_77 5009 = (nI (tf9 (txK x L ((ar9 x L μ 7 (na9 7) 0 0 (txE x L e)).2)) 3)) := eσ_77_e
              have eσ_77_f : σ_77 4004 = (if tf9 (txK x L ((ar9 x L μ 7 (na9 7) 0 0 (txE x L e)).2)) 3 = 0 then p0 else nI (txS x L (cl9 x L ((ar9 x L μ 7 (na9 7) 0 0 (txE x L e)).2)))) := eσ_77_f
              have eσ_77_g : TX 5600 σ_77 L x := eσ_77_g
              have eσ_77_h : VL σ_77 x L (cl9 x L ((ar9 x L μ 7 (na9 7) 0 0 (txE x L e)).2)) := eσ_77_h
              have eσ_77_i : ∀ a, (a ≠ 5009 ∧ a ≠ 4004 ∧ (a < 5005 ∨ 5008 < a)) → σ_77 a = σ_75 a := eσ_77_i
              have ht5004_σ_77 : σ_77 5004 = (nI L) := eσ_77_a
              have ht5005_σ_77 : σ_77 5005 = (nI (kr (txK x L (cl9 x L ((ar9 x L μ 7 (na9 7) 0 0 (txE x L e)).2))))) := eσ_77_b
              have ht5006_σ_77 : σ_77 5006 = (nI (txS x L (cl9 x L ((ar9 x L μ 7 (na9 7) 0 0 (txE x L e)).2)))) := eσ_77_c
              have ht5007_σ_77 : σ_77 5007 = (nI (txE x L (cl9 x L ((ar9 x L μ 7 (na9 7) 0 0 (txE x L e)).2)))) := eσ_77_d
              have ht5009_σ_77 : σ_77 5009 = (nI (tf9 (txK x L ((ar9 x L μ 7 (na9 7) 0 0 (txE x L e)).2)) 3)) := eσ_77_e
              have ht4004_σ_77 : σ_77 4004 = (if tf9 (txK x L ((ar9 x L μ 7 (na9 7) 0 0 (txE x L e)).2)) 3 = 0 then p0 else nI (txS x L (cl9 x L ((ar9 x L μ 7 (na9 7) 0 0 (txE x L e)).2)))) := eσ_77_f
              have hcTX_σ_77 : TX 5600 σ_77 L x := eσ_77_g
              have hcVL_σ_77 : VL σ_77 x L (cl9 x L ((ar9 x L μ 7 (na9 7) 0 0 (txE x L e)).2)) := eσ_77_h
              have hcFR_σ_77 : ∀ a, (464 ≤ a ∧ a ≠ 5010 ∧ a ≠ 5009 ∧ a ≠ 4004 ∧ (a < 5005 ∨ 5008 < a) ∨ a = 10) → σ_77 a = σ a := by intro a ha; exact Eq.trans (b := σ_75 a) (eσ_77_i a (by first | omega | (simp only [vb] at *; omega))) (hcFR_σ_75 a ha)
              have hcTD_σ_77 : TD σ_77 (b5 || decide (k = 5)) (b6 || decide (k = 6)) := by exact TD.fr hcTD_σ_75 (eσ_77_i _ (by first | omega | (simp only [vb] at *; omega)))
              have hvσ_77 : vw 0 σ_77 = μ_76 := by rw [vw_fr (σ := σ_75) (fun j _ _ => eσ_77_i _ (by first | omega | (simp only [vb] at *; omega)))]; first | exact hvσ_75 | assumption
              refine g_ifB_eq h dX12_aLine_251 (fun c251 => ?_) (fun c251 => ?_)
              ·
                refine g_iconst h dX12_aLine_258 (by decide) ?_
                exact g_zret h hQ dX12_aLine_259 (show narrow .boolean (.int (b2i false)) = .int (b2i false) from narrow_b2i _) (congrArg (fun z => some (Value.int (b2i z))) (show (decide ((ln9 x L (0, e, μ, b5, b6)).1 = 0)) = false by rw [hR]; first | rfl | exact decide_eq_true rfl | exact decide_eq_false hq9 | exact decide_eq_false (tff_0 (by decide)) | exact c115 | exact c135 | exact c165 | exact c185 | exact c208 | exact c231 | exact c251 | decide)) (by exact ⟨(by first | (rw [hR]; exact (hvσ_77).trans (by simp only [eμ_76]; exact if_neg hq9)) | (rw [hR]; exact (hvσ_77).trans (by simp only [eμ_76]; exact if_pos hq9)) | (rw [hR]; exact hvσ_77) | fail), (by first | exact ht5004_σ_77 | assumption | fail), (by rw [hR]; exact ht5005_σ_77), (by rw [hR]; exact ht5006_σ_77), (by rw [hR]; exact ht5007_σ_77), (by rw [hR]; exact ht5009_σ_77), (by first | (rw [hR]; exact ht4004_σ_77) | (rw [hR]; exact (ht4004_σ_77).trans (if_neg (by first | exact tff_0 (by decide) | decide)).symm) | fail), (by first | exact hcTX_σ_77 | assumption | fail), (by rw [hR]; exact hcVL_σ_77), (by first | (intro _; rw [hR]; exact hcTD_σ_77) | (intro z; rw [hR] at z; exact absurd z hq9) | (intro z; rw [hR] at z; exact absurd z (by first | exact tff_0 (by decide) | decide)) | fail), (by exact hcFR_σ_77)⟩)
              ·
                refine g_iconst h dX12_aLine_254 (by decide) ?_
                refine g_goto h dX12_aLine_255 ?_
                exact g_zret h hQ dX12_aLine_259 (show narrow .boolean (.int (b2i true)) = .int (b2i true) from narrow_b2i _) (congrArg (fun z => some (Value.int (b2i z))) (show (decide ((ln9 x L (0, e, μ, b5, b6)).1 = 0)) = true by rw [hR]; first | rfl | exact decide_eq_true rfl | exact decide_eq_false hq9 | exact decide_eq_false (tff_0 (by decide)) | exact c115 | exact c135 | exact c165 | exact c185 | exact c208 | exact c231 | exact c251 | decide)) (by exact ⟨(by first | (rw [hR]; exact (hvσ_77).trans (by simp only [eμ_76]; exact if_neg hq9)) | (rw [hR]; exact (hvσ_77).trans (by simp only [eμ_76]; exact if_pos hq9)) | (rw [hR]; exact hvσ_77) | fail), (by first | exact ht5004_σ_77 | assumption | fail), (by rw [hR]; exact ht5005_σ_77), (by rw [hR]; exact ht5006_σ_77), (by rw [hR]; exact ht5007_σ_77), (by rw [hR]; exact ht5009_σ_77), (by first | (rw [hR]; exact ht4004_σ_77) | (rw [hR]; exact (ht4004_σ_77).trans (if_neg (by first | exact tff_0 (by decide) | decide)).symm) | fail), (by first | exact hcTX_σ_77 | assumption | fail), (by rw [hR]; exact hcVL_σ_77), (by first | (intro _; rw [hR]; exact hcTD_σ_77) | (intro z; rw [hR] at z; exact absurd z hq9) | (intro z; rw [hR] at z; exact absurd z (by first | exact tff_0 (by decide) | decide)) | fail), (by exact hcFR_σ_77)⟩)
        ·
          have hR : (ln9 x L (0, e, μ, b5, b6)) = (5, e, μ, b5, b6) := by first | exact ln9_k2 (s := (0, e, μ, b5, b6)) hK1 hW1 (td_y hcTD_σ (Or.inl c18) c35) | exact ln9_k2 (s := (0, e, μ, b5, b6)) hK1 hW1 (td_y hcTD_σ (Or.inr c24) c35)
          refine g_aload_n h dX12_aLine_38 0 rfl ?_
          refine g_iconst h dX12_aLine_39 (by decide) ?_
          refine g_cvi (rest := []) h (r_fails hW 5 e L x (by omega) (by first | exact ht5005_σ | assumption | fail) (by first | exact ht5006_σ | assumption | fail) (by first | exact ht5009_σ | assumption | fail)) lX12_fails mX12_226 (Nat.lt_of_lt_of_le (by decide) (Nat.le_refl _)) (by decide) sc_0 rfl rfl rfl rfl dX12_aLine_40 (fun σ_78 eσ_78 => ?_)
          obtain ⟨eσ_78_a, eσ_78_b, eσ_78_c⟩ := eσ_78
          have eσ_78_a : σ_78 5009 = (nI (tff (txK x L e) 5)) := eσ_78_a
          have eσ_78_b : σ_78 4004 = (nI (txS x L e)) := eσ_78_b
          have eσ_78_c : ∀ a, (a ≠ 5009 ∧ a ≠ 4004) → σ_78 a = σ a := eσ_78_c
          have ht5004_σ_78 : σ_78 5004 = (nI L) := by rw [eσ_78_c _ (by first | omega | (simp only [vb] at *; omega))]; first | exact ht5004_σ | assumption
          have ht5005_σ_78 : σ_78 5005 = (nI (kr (txK x L e))) := by rw [eσ_78_c _ (by first | omega | (simp only [vb] at *; omega))]; first | exact ht5005_σ | assumption
          have ht5006_σ_78 : σ_78 5006 = (nI (txS x L e)) := by rw [eσ_78_c _ (by first | omega | (simp only [vb] at *; omega))]; first | exact ht5006_σ | assumption
          have ht5007_σ_78 : σ_78 5007 = (nI (txE x L e)) := by rw [eσ_78_c _ (by first | omega | (simp only [vb] at *; omega))]; first | exact ht5007_σ | assumption
          have ht5009_σ_78 : σ_78 5009 = (nI (tff (txK x L e) 5)) := eσ_78_a
          have ht4004_σ_78 : σ_78 4004 = (nI (txS x L e)) := eσ_78_b
          have hcTX_σ_78 : TX 5600 σ_78 L x := by exact TX.fr hcTX_σ (fun a ha hb => eσ_78_c a (by first | omega | (simp only [vb] at *; omega)))
          have hcVL_σ_78 : VL σ_78 x L e := by exact VL.fr hcVL_σ (eσ_78_c _ (by first | omega | (simp only [vb] at *; omega)))
          have hcTD_σ_78 : TD σ_78 b5 b6 := by exact TD.fr hcTD_σ (eσ_78_c _ (by first | omega | (simp only [vb] at *; omega)))
          have hcFR_σ_78 : ∀ a, (464 ≤ a ∧ a ≠ 5010 ∧ a ≠ 5009 ∧ a ≠ 4004 ∧ (a < 5005 ∨ 5008 < a) ∨ a = 10) → σ_78 a = σ a := by intro a ha; exact Eq.trans (b := σ a) (eσ_78_c a (by first | omega | (simp only [vb] at *; omega))) (hcFR_σ a ha)
          have hvσ_78 : vw 0 σ_78 = μ := by rw [vw_fr (σ := σ) (fun j _ _ => eσ_78_c _ (by first | omega | (simp only [vb] at *; omega)))]; first | exact hv | assumption
          refine g_top (y := nI 0) rfl ?_
          have ht5009_σ_78 : σ_78 5009 = (nI 5) := by rw [ht5009_σ_78, hK1]; rfl
          exact g_zret h hQ dX12_aLine_43 (show narrow .boolean (.int (b2i false)) = .int (b2i false) from narrow_b2i _) (congrArg (fun z => some (Value.int (b2i z))) (show (decide ((ln9 x L (0, e, μ, b5, b6)).1 = 0)) = false by rw [hR]; first | rfl | exact decide_eq_true rfl | exact decide_eq_false hq9 | exact decide_eq_false (tff_0 (by decide)) | exact c115 | exact c135 | exact c165 | exact c185 | exact c208 | exact c231 | exact c251 | decide)) (by exact ⟨(by first | (rw [hR]; exact (hvσ_78).trans (by simp only [Nat.add_zero]; exact if_neg hq9)) | (rw [hR]; exact (hvσ_78).trans (by simp only [Nat.add_zero]; exact if_pos hq9)) | (rw [hR]; exact hvσ_78) | fail), (by first | exact ht5004_σ_78 | assumption | fail), (by rw [hR]; exact ht5005_σ_78), (by rw [hR]; exact ht5006_σ_78), (by rw [hR]; exact ht5007_σ_78), (by rw [hR]; exact ht5009_σ_78), (by first | (rw [hR]; exact ht4004_σ_78) | (rw [hR]; exact (ht4004_σ_78).trans (if_neg (by first | exact tff_0 (by decide) | decide)).symm) | fail), (by first | exact hcTX_σ_78 | assumption | fail), (by rw [hR]; exact hcVL_σ_78), (by first | (intro _; rw [hR]; exact hcTD_σ_78) | (intro z; rw [hR] at z; exact absurd z hq9) | (intro z; rw [hR] at z; exact absurd z (by first | exact tff_0 (by decide) | decide)) | fail), (by exact hcFR_σ_78)⟩)
