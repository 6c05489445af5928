/-! the tape, load: the reference's -/
def tpf (tp : Nat → Nat) (t : Nat) (v : Int32) : Nat → Nat := fun i => if i < t then tp i else bcd (v >>> (nI (8 * (3 - (i - t))) &&& 31))
theorem tpf_0 {b t : Nat} {tp : Nat → Nat} {v : Int32} {σ : Mem} (h : TX b σ t tp) : TX b σ t (tpf tp t v) := fun k hk => by
  have e : tpf tp t v k = tp k := if_pos hk
  rw [e]
  exact h k hk
theorem tpf_at {tp : Nat → Nat} {t t1 kq : Nat} {v : Int32} (h1 : t ≤ t1) (h2 : 3 - (t1 - t) = kq) : tpf tp t v t1 = bcd (v >>> (nI (8 * kq) &&& 31)) := by
  subst h2
  exact if_neg (by omega)
theorem TX.more {b n : Nat} {x : Nat → Nat} {σ : Mem} (h : TX b σ n x) (h1 : x n < 256) (h2 : σ (b + n) = by8 (x n)) : TX b σ (n + 1) x := fun k hk => by
  by_cases e : k = n
  · rw [e]
    exact ⟨h1, h2⟩
  · exact h k (by omega)
def tpN (t : Nat) : Nat := if 380 < t then t else t + 20
def tp5 (tp : Nat → Nat) (t : Nat) (a b c d e : Int32) : Nat → Nat := tpf (tpf (tpf (tpf (tpf tp t a) (t + 4) b) (t + 4 + 4) c) (t + 4 + 4 + 4) d) (t + 4 + 4 + 4 + 4) e
def tpT (tp : Nat → Nat) (t : Nat) (a b c d e : Int32) : Nat → Nat := if 380 < t then tp else tp5 tp t a b c d e

set_option maxRecDepth 100000 in
set_option maxHeartbeats 4000000 in
theorem r_four {l : Launch} {w : Wd} (hW : Wi w) {σ : Mem} (v : Int32) (t : Nat) (tp : Nat → Nat) (ht9 : t + 4 ≤ 400) (ht4002_σ : σ 4002 = (nI t)) (hcTP_σ : TX 4100 σ t tp) : MC l w qX12_four 0 [.ref (w.1 0), .int v] σ none (fun σ' => (σ' 4002 = (nI (t + 4))) ∧ (TX 4100 σ' (t + 4) (tpf tp t v)) ∧ (∀ a, ((a < 4100 ∨ 4500 ≤ a) ∧ a ≠ 4002) → σ' a = σ a)) := by
  refine MC.of hW (by decide +kernel) (Nat.le_of_ble_eq_true rfl) (fun X h hQ hnm => ?_)
  have h : Fx X w cX12_four 3 RX12 0 := h
  have hQ : Qx X w none none (fun σ' => (σ' 4002 = (nI (t + 4))) ∧ (TX 4100 σ' (t + 4) (tpf tp t v)) ∧ (∀ a, ((a < 4100 ∨ 4500 ≤ a) ∧ a ≠ 4002) → σ' a = σ a)) := hQ
  have hcFR_σ : ∀ a, ((a < 4100 ∨ 4500 ≤ a) ∧ a ≠ 4002) → σ a = σ a := fun _ _ => rfl
  show G X w 3 0 [(0, .ref (w.1 0)), (1, .int v)] [] σ
  refine g_iconst h dX12_four_0 (by decide) ?_
  refine g_istore_n (L' := [(0, .ref (w.1 0)), (1, .int v), (2, .int (nI 3))]) h dX12_four_1 rfl (by decide) rfl ?_
  have lp2 : ∀ (k9 : Nat) (kk : Nat) (t1 : Nat) (τ : Mem), (kk ≤ 4) → (t1 + kk = t + 4) → (τ 4002 = (nI t1)) → (TX 4100 τ t1 (tpf tp t v)) → (∀ a, ((a < 4100 ∨ 4500 ≤ a) ∧ a ≠ 4002) → τ a = σ a) → kk < k9 → G X w 3 2 [(0, .ref (w.1 0)), (1, .int v), (2, .int (pI kk))] [] (τ) := by
    intro k9
    induction k9 with
    | zero => intro kk t1 τ hk4 ht1 ht4002_τ hcTP_τ hcFR_τ hm9; exact absurd hm9 (Nat.not_lt_zero _)
    | succ k9 ih2 =>
      intro kk t1 τ hk4 ht1 ht4002_τ hcTP_τ hcFR_τ hm2
      refine g_iload_n h dX12_four_2 2 rfl ?_
      rcases kk with _ | kq
      ·
        show G X w 3 3 [(0, .ref (w.1 0)), (1, .int v), (2, .int (-1))] [.int (-1)] (τ)
        refine g_if_lt h dX12_four_3 (fun c3 => ?_) (fun c3 => absurd c3 (by decide))
        exact g_vret h hQ dX12_four_38 rfl (by exact ⟨(by rw [show t + 4 = t1 from by omega]; exact ht4002_τ), (by rw [show t + 4 = t1 from by omega]; exact hcTP_τ), (by exact hcFR_τ)⟩)
      ·
        show G X w 3 3 [(0, .ref (w.1 0)), (1, .int v), (2, .int (nI kq))] [.int (nI kq)] (τ)
        refine g_ifN_lt h dX12_four_3 (by omega) ?_
        refine g_aload_n h dX12_four_6 0 rfl ?_
        refine g_getr h dX12_four_7 gX12_28 sc_0 rfl ?_
        refine g_aload_n h dX12_four_10 0 rfl ?_
        refine g_geti h dX12_four_11 gX12_178 sc_0 rfl ?_
        refine g_top (y := (nI t1)) (by first | exact ht4002_τ | assumption) ?_
        refine g_iload_n h dX12_four_14 1 rfl ?_
        refine g_bipush h dX12_four_15 (by decide) ?_
        refine g_iload_n h dX12_four_17 2 rfl ?_
        refine g_imulN h dX12_four_18  ?_
        refine g_ishr h dX12_four_19  ?_
        refine g_i2b h dX12_four_20  ?_
        refine g_bast h dX12_four_21 sc_7 (by omega) ?_
        refine g_nm (fun σw eσw => ?_)
        have eσw : σw = upd (τ) (4100 + t1) (vp_nar .byte ((v >>> ((nI (8 * kq)) &&& 31)).toInt8.toInt32)) := eσw
        have ht4002_σw : σw 4002 = (nI t1) := by rw [eσw, upd_ne (by first | omega | (simp only [vb] at *; omega))]; first | exact ht4002_τ | assumption
        have hcTP_σw : TX 4100 σw t1 (tpf tp t v) := by rw [eσw]; exact TX.fr hcTP_τ (fun a ha hb => upd_ne (by first | omega | (simp only [vb] at *; omega)))
        have hcFR_σw : ∀ a, ((a < 4100 ∨ 4500 ≤ a) ∧ a ≠ 4002) → σw a = σ a := by intro a ha; exact Eq.trans (b := (τ) a) (by rw [eσw, upd_ne (by first | omega | (simp only [vb] at *; omega))]) (hcFR_τ a ha)
        refine g_aload_n h dX12_four_22 0 rfl ?_
        refine g_dup h dX12_four_23 rfl ?_
        refine g_geti h dX12_four_24 gX12_178 sc_0 rfl ?_
        refine g_top (y := (nI t1)) (by first | exact ht4002_σw | assumption) ?_
        refine g_iconst h dX12_four_27 (by decide) ?_
        refine g_iaddN h dX12_four_28  ?_
        refine g_puti h dX12_four_29 pX12_178 sc_0 rfl ?_
        refine g_nm (fun σx eσx => ?_)
        have eσx : σx = upd σw 4002 (nI (t1 + 1)) := eσx
        have ht4002_σx : σx 4002 = (nI (t1 + 1)) := by rw [eσx]; exact upd_eq
        have hcTP_σx : TX 4100 σx t1 (tpf tp t v) := by rw [eσx]; exact TX.fr hcTP_σw (fun a ha hb => upd_ne (by first | omega | (simp only [vb] at *; omega)))
        have hcFR_σx : ∀ a, ((a < 4100 ∨ 4500 ≤ a) ∧ a ≠ 4002) → σx a = σ a := by intro a ha; exact Eq.trans (b := σw a) (by rw [eσx, upd_ne (by first | omega | (simp only [vb] at *; omega))]) (hcFR_σw a ha)
        refine g_iinc (v := (pI kq)) (L' := [(0, .ref (w.1 0)), (1, .int v), (2, .int (pI kq))]) h dX12_four_32 2 rfl rfl (by decide) pI_dec rfl ?_
        refine g_goto h dX12_four_35 ?_
        exact ih2 kq (t1 + 1) σx (by omega) (by omega) (by first | exact ht4002_σx | assumption | fail | fail) (by exact TX.more hcTP_σx (by rw [tpf_at (kq := kq) (by omega) (by omega)]; exact bcd_lt) (by rw [eσx, upd_ne (by omega), eσw, upd_eq, tpf_at (kq := kq) (by omega) (by omega)]; exact nar_bcd _)) (by first | exact hcFR_σx | assumption | fail | fail) (by omega)
  exact lp2 (_) 4 t σ (by omega) (by omega) (by first | exact ht4002_σ | assumption | fail | fail) (by exact tpf_0 hcTP_σ) (by first | exact hcFR_σ | assumption | fail | fail) (Nat.lt_succ_self _)

set_option maxRecDepth 100000 in
set_option maxHeartbeats 4000000 in
theorem q_feed {l : Launch} {w : Wd} (hW : Wi w) {σ : Mem} (a b c d e : Int32) (t : Nat) (tp : Nat → Nat) (ht9 : t ≤ 400) (ht4002_σ : σ 4002 = (nI t)) (hcTP_σ : TX 4100 σ t tp) : MC l w qX12_feed 1 [.ref (w.1 0), .int a, .int b, .int c, .int d, .int e] σ (some (.int (if 380 < t then -1 else nI (t + 20)))) (fun σ' => (σ' 4002 = (nI (tpN t))) ∧ (TX 4100 σ' (tpN t) (tpT tp t a b c d e)) ∧ (∀ a, ((a < 4100 ∨ 4500 ≤ a) ∧ a ≠ 4002) → σ' a = σ a)) := by
  refine MC.of hW (by decide +kernel) (Nat.le_of_ble_eq_true rfl) (fun X h hQ hnm => ?_)
  have h : Fx X w cX12_feed 6 RX12 1 := h
  have hQ : Qx X w (some .int) (some (.int (if 380 < t then -1 else nI (t + 20)))) (fun σ' => (σ' 4002 = (nI (tpN t))) ∧ (TX 4100 σ' (tpN t) (tpT tp t a b c d e)) ∧ (∀ a, ((a < 4100 ∨ 4500 ≤ a) ∧ a ≠ 4002) → σ' a = σ a)) := hQ
  have hcFR_σ : ∀ a, ((a < 4100 ∨ 4500 ≤ a) ∧ a ≠ 4002) → σ a = σ a := fun _ _ => rfl
  show G X w 6 0 [(0, .ref (w.1 0)), (1, .int a), (2, .int b), (3, .int c), (4, .int d), (5, .int e)] [] σ
  refine g_aload_n h dX12_feed_0 0 rfl ?_
  refine g_geti h dX12_feed_1 gX12_178 sc_0 rfl ?_
  refine g_top (y := (nI t)) (by first | exact ht4002_σ | assumption) ?_
  refine g_sipush h dX12_feed_4 (by decide) ?_
  refine g_icmpN_le h dX12_feed_7 (by omega) (by omega) (fun c7 => ?_) (fun c7 => ?_)
  ·
    refine g_aload_n h dX12_feed_12 0 rfl ?_
    refine g_iload_n h dX12_feed_13 1 rfl ?_
    refine g_cvv (rest := []) h (r_four hW a t tp (by omega) (by first | exact ht4002_σ | assumption | fail) (by first | exact hcTP_σ | assumption | fail)) lX12_four mX12_181 (Nat.lt_of_lt_of_le (by decide) (Nat.le_refl _)) (by decide) sc_0 rfl rfl rfl rfl dX12_feed_14 (fun σ_1 eσ_1 => ?_)
    obtain ⟨eσ_1_a, eσ_1_b, eσ_1_c⟩ := eσ_1
    have eσ_1_a : σ_1 4002 = (nI (t + 4)) := eσ_1_a
    have eσ_1_b : TX 4100 σ_1 (t + 4) (tpf tp t a) := eσ_1_b
    have eσ_1_c : ∀ a, ((a < 4100 ∨ 4500 ≤ a) ∧ a ≠ 4002) → σ_1 a = σ a := eσ_1_c
    have ht4002_σ_1 : σ_1 4002 = (nI (t + 4)) := eσ_1_a
    have hcTP_σ_1 : TX 4100 σ_1 (t + 4) (tpf tp t a) := eσ_1_b
    have hcFR_σ_1 : ∀ a, ((a < 4100 ∨ 4500 ≤ a) ∧ a ≠ 4002) → σ_1 a = σ a := by intro a ha; exact Eq.trans (b := σ a) (eσ_1_c a (by first | omega | (simp only [vb] at *; omega))) (hcFR_σ a ha)
    refine g_aload_n h dX12_feed_17 0 rfl ?_
    refine g_iload_n h dX12_feed_18 2 rfl ?_
    refine g_cvv (rest := []) h (r_four hW b (t + 4) (tpf tp t a) (by omega) (by first | exact ht4002_σ_1 | assumption | fail) (by first | exact hcTP_σ_1 | assumption | fail)) lX12_four mX12_181 (Nat.lt_of_lt_of_le (by decide) (Nat.le_refl _)) (by decide) sc_0 rfl rfl rfl rfl dX12_feed_19 (fun σ_2 eσ_2 => ?_)
    obtain ⟨eσ_2_a, eσ_2_b, eσ_2_c⟩ := eσ_2
    have eσ_2_a : σ_2 4002 = (nI ((t + 4) + 4)) := eσ_2_a
    have eσ_2_b : TX 4100 σ_2 ((t + 4) + 4) (tpf (tpf tp t a) (t + 4) b) := eσ_2_b
    have eσ_2_c : ∀ a, ((a < 4100 ∨ 4500 ≤ a) ∧ a ≠ 4002) → σ_2 a = σ_1 a := eσ_2_c
    have ht4002_σ_2 : σ_2 4002 = (nI ((t + 4) + 4)) := eσ_2_a
    have hcTP_σ_2 : TX 4100 σ_2 ((t + 4) + 4) (tpf (tpf tp t a) (t + 4) b) := eσ_2_b
    have hcFR_σ_2 : ∀ a, ((a < 4100 ∨ 4500 ≤ a) ∧ a ≠ 4002) → σ_2 a = σ a := by intro a ha; exact Eq.trans (b := σ_1 a) (eσ_2_c a (by first | omega | (simp only [vb] at *; omega))) (hcFR_σ_1 a ha)
    refine g_aload_n h dX12_feed_22 0 rfl ?_
    refine g_iload_n h dX12_feed_23 3 rfl ?_
    refine g_cvv (rest := []) h (r_four hW c ((t + 4) + 4) (tpf (tpf tp t a) (t + 4) b) (by omega) (by first | exact ht4002_σ_2 | assumption | fail) (by first | exact hcTP_σ_2 | assumption | fail)) lX12_four mX12_181 (Nat.lt_of_lt_of_le (by decide) (Nat.le_refl _)) (by decide) sc_0 rfl rfl rfl rfl dX12_feed_24 (fun σ_3 eσ_3 => ?_)
    obtain ⟨eσ_3_a, eσ_3_b, eσ_3_c⟩ := eσ_3
    have eσ_3_a : σ_3 4002 = (nI (((t + 4) + 4) + 4)) := eσ_3_a
    have eσ_3_b : TX 4100 σ_3 (((t + 4) + 4) + 4) (tpf (tpf (tpf tp t a) (t + 4) b) ((t + 4) + 4) c) := eσ_3_b
    have eσ_3_c : ∀ a, ((a < 4100 ∨ 4500 ≤ a) ∧ a ≠ 4002) → σ_3 a = σ_2 a := eσ_3_c
    have ht4002_σ_3 : σ_3 4002 = (nI (((t + 4) + 4) + 4)) := eσ_3_a
    have hcTP_σ_3 : TX 4100 σ_3 (((t + 4) + 4) + 4) (tpf (tpf (tpf tp t a) (t + 4) b) ((t + 4) + 4) c) := eσ_3_b
    have hcFR_σ_3 : ∀ a, ((a < 4100 ∨ 4500 ≤ a) ∧ a ≠ 4002) → σ_3 a = σ a := by intro a ha; exact Eq.trans (b := σ_2 a) (eσ_3_c a (by first | omega | (simp only [vb] at *; omega))) (hcFR_σ_2 a ha)
    refine g_aload_n h dX12_feed_27 0 rfl ?_
    refine g_iload h dX12_feed_28 4 rfl ?_
    refine g_cvv (rest := []) h (r_four hW d (((t + 4) + 4) + 4) (tpf (tpf (tpf tp t a) (t + 4) b) ((t + 4) + 4) c) (by omega) (by first | exact ht4002_σ_3 | assumption | fail) (by first | exact hcTP_σ_3 | assumption | fail)) lX12_four mX12_181 (Nat.lt_of_lt_of_le (by decide) (Nat.le_refl _)) (by decide) sc_0 rfl rfl rfl rfl dX12_feed_30 (fun σ_4 eσ_4 => ?_)
    obtain ⟨eσ_4_a, eσ_4_b, eσ_4_c⟩ := eσ_4
    have eσ_4_a : σ_4 4002 = (nI ((((t + 4) + 4) + 4) + 4)) := eσ_4_a
    have eσ_4_b : TX 4100 σ_4 ((((t + 4) + 4) + 4) + 4) (tpf (tpf (tpf (tpf tp t a) (t + 4) b) ((t + 4) + 4) c) (((t + 4) + 4) + 4) d) := eσ_4_b
    have eσ_4_c : ∀ a, ((a < 4100 ∨ 4500 ≤ a) ∧ a ≠ 4002) → σ_4 a = σ_3 a := eσ_4_c
    have ht4002_σ_4 : σ_4 4002 = (nI ((((t + 4) + 4) + 4) + 4)) := eσ_4_a
    have hcTP_σ_4 : TX 4100 σ_4 ((((t + 4) + 4) + 4) + 4) (tpf (tpf (tpf (tpf tp t a) (t + 4) b) ((t + 4) + 4) c) (((t + 4) + 4) + 4) d) := eσ_4_b
    have hcFR_σ_4 : ∀ a, ((a < 4100 ∨ 4500 ≤ a) ∧ a ≠ 4002) → σ_4 a = σ a := by intro a ha; exact Eq.trans (b := σ_3 a) (eσ_4_c a (by first | omega | (simp only [vb] at *; omega))) (hcFR_σ_3 a ha)
    refine g_aload_n h dX12_feed_33 0 rfl ?_
    refine g_iload h dX12_feed_34 5 rfl ?_
    refine g_cvv (rest := []) h (r_four hW e ((((t + 4) + 4) + 4) + 4) (tpf (tpf (tpf (tpf tp t a) (t + 4) b) ((t + 4) + 4) c) (((t + 4) + 4) + 4) d) (by omega) (by first | exact ht4002_σ_4 | assumption | fail) (by first | exact hcTP_σ_4 | assumption | fail)) lX12_four mX12_181 (Nat.lt_of_lt_of_le (by decide) (Nat.le_refl _)) (by decide) sc_0 rfl rfl rfl rfl dX12_feed_36 (fun σ_5 eσ_5 => ?_)
    obtain ⟨eσ_5_a, eσ_5_b, eσ_5_c⟩ := eσ_5
    have eσ_5_a : σ_5 4002 = (nI (((((t + 4) + 4) + 4) + 4) + 4)) := eσ_5_a
    have eσ_5_b : TX 4100 σ_5 (((((t + 4) + 4) + 4) + 4) + 4) (tpf (tpf (tpf (tpf (tpf tp t a) (t + 4) b) ((t + 4) + 4) c) (((t + 4) + 4) + 4) d) ((((t + 4) + 4) + 4) + 4) e) := eσ_5_b
    have eσ_5_c : ∀ a, ((a < 4100 ∨ 4500 ≤ a) ∧ a ≠ 4002) → σ_5 a = σ_4 a := eσ_5_c
    have ht4002_σ_5 : σ_5 4002 = (nI (((((t + 4) + 4) + 4) + 4) + 4)) := eσ_5_a
    have hcTP_σ_5 : TX 4100 σ_5 (((((t + 4) + 4) + 4) + 4) + 4) (tpf (tpf (tpf (tpf (tpf tp t a) (t + 4) b) ((t + 4) + 4) c) (((t + 4) + 4) + 4) d) ((((t + 4) + 4) + 4) + 4) e) := eσ_5_b
    have hcFR_σ_5 : ∀ a, ((a < 4100 ∨ 4500 ≤ a) ∧ a ≠ 4002) → σ_5 a = σ a := by intro a ha; exact Eq.trans (b := σ_4 a) (eσ_5_c a (by first | omega | (simp only [vb] at *; omega))) (hcFR_σ_4 a ha)
    refine g_aload_n h dX12_feed_39 0 rfl ?_
    refine g_geti h dX12_feed_40 gX12_178 sc_0 rfl ?_
    refine g_top (y := (nI (((((t + 4) + 4) + 4) + 4) + 4))) (by first | exact ht4002_σ_5 | assumption) ?_
    exact g_iret h hQ dX12_feed_43 (congrArg (fun z => some (Value.int z)) (show (if 380 < t then -1 else nI (t + 20)) = (nI (((((t + 4) + 4) + 4) + 4) + 4)) by first | exact if_pos (by omega) | exact (if_neg (by omega)).trans rfl | fail)) (by exact ⟨(by first | (rw [show tpN t = t from if_pos (by omega)]; exact ht4002_σ_5) | (rw [show tpN t = t + 4 + 4 + 4 + 4 + 4 from if_neg (by omega)]; exact ht4002_σ_5) | fail), (by first | (rw [show tpN t = t from if_pos (by omega), show tpT tp t a b c d e = tp from if_pos (by omega)]; exact hcTP_σ_5) | (rw [show tpN t = t + 4 + 4 + 4 + 4 + 4 from if_neg (by omega), show tpT tp t a b c d e = tp5 tp t a b c d e from if_neg (by omega)]; exact hcTP_σ_5) | fail), (by exact hcFR_σ_5)⟩)
  ·
    refine g_iconstv h dX12_feed_10 (v := (-1)) (by decide) ?_
    exact g_iret h hQ dX12_feed_11 (congrArg (fun z => some (Value.int z)) (show (if 380 < t then -1 else nI (t + 20)) = (-1) by first | exact if_pos (by omega) | exact (if_neg (by omega)).trans rfl | fail)) (by exact ⟨(by first | (rw [show tpN t = t from if_pos (by omega)]; exact ht4002_σ) | (rw [show tpN t = t + 4 + 4 + 4 + 4 + 4 from if_neg (by omega)]; exact ht4002_σ) | fail), (by first | (rw [show tpN t = t from if_pos (by omega), show tpT tp t a b c d e = tp from if_pos (by omega)]; exact hcTP_σ) | (rw [show tpN t = t + 4 + 4 + 4 + 4 + 4 from if_neg (by omega), show tpT tp t a b c d e = tp5 tp t a b c d e from if_neg (by omega)]; exact hcTP_σ) | fail), (by exact hcFR_σ)⟩)

theorem r_beginsT {l : Launch} {w : Wd} (hW : Wi w) {σ : Mem} (g : Nat → Nat → Int32) : MC l w qX12_begins 1 [.ref (w.1 0)] σ none (fun σ' => (vw 0 σ' = bgP) ∧ (LR 0 σ' 0 g) ∧ (∀ a, (528 ≤ a) → σ' a = σ a)) := r_begins hW g
theorem pk9 {s : PS} (h : s.1 = 0) : ((0, s.2.1, s.2.2.1, s.2.2.2.1, s.2.2.2.2) : PS) = s := by
  obtain ⟨a, b, c, d, e⟩ := s
  cases h
  rfl
theorem lr_0 {b n : Nat} {g g' : Nat → Nat → Int32} {σ : Mem} (h : LR b σ 0 g) (hn : n = 0) : LR b σ n g' := by
  subst hn
  exact ⟨h.1, fun i wq hi => by omega⟩

set_option maxRecDepth 100000 in
set_option maxHeartbeats 16000000 in
theorem q_load {l : Launch} {w : Wd} (hW : Wi w) {σ : Mem} (n : Int32) (F : PS) (t nt : Nat) (tp : Nat → Nat) (fk fp : Int32) (g : Nat → Nat → Int32) (μ : Nat → Int32) (hv : vw 0 σ = μ) (hI : MI μ) (ht9 : t ≤ 400) (hFe : F = tx9 tp (toN n) 400) (ht4002_σ : σ 4002 = (nI t)) (ht4003_σ : σ 4003 = fk) (ht4004_σ : σ 4004 = fp) (hcTP_σ : TX 4100 σ t tp) (hcLR_σ : LR 0 σ nt g) : MC l w qX12_load 6 [.ref (w.1 0), .int n] σ (some (.int (an (fo (rg n (nI 0) (nI t)) (if F.1 = 0 then 0 else 9)) (nI (nN F.2.2.1))))) (fun σ' => (vw 0 σ' = pk0 (fo (rg n (nI 0) (nI t)) (if F.1 = 0 then 0 else 9)) F.2.2.1 μ) ∧ (σ' 4000 = (nI (fo (rg n (nI 0) (nI t)) (if F.1 = 0 then 0 else 9)))) ∧ (σ' 4002 = (nI (if rg n (nI 0) (nI t) = 0 then 0 else t))) ∧ (σ' 4003 = (if rg n (nI 0) (nI t) = 0 then nI F.1 else fk)) ∧ (σ' 4004 = (if rg n (nI 0) (nI t) = 0 then (if F.1 = 0 then -1 else nI (txS tp (toN n) F.2.1)) else fp)) ∧ (TX 4100 σ' (if rg n (nI 0) (nI t) = 0 then 0 else t) tp) ∧ (LR 0 σ' (if fo (rg n (nI 0) (nI t)) (if F.1 = 0 then 0 else 9) = 0 then 0 else nt) g) ∧ (∀ a, (1056 ≤ a ∧ a ≠ 4000 ∧ a ≠ 4002 ∧ a ≠ 4003 ∧ a ≠ 4004 ∧ (a < 4900 ∨ 6000 ≤ a)) → σ' a = σ a)) := by
  refine MC.of hW (by decide +kernel) (Nat.le_of_ble_eq_true rfl) (fun X h hQ hnm => ?_)
  have h : Fx X w cX12_load 3 RX12 6 := h
  have hQ : Qx X w (some .int) (some (.int (an (fo (rg n (nI 0) (nI t)) (if F.1 = 0 then 0 else 9)) (nI (nN F.2.2.1))))) (fun σ' => (vw 0 σ' = pk0 (fo (rg n (nI 0) (nI t)) (if F.1 = 0 then 0 else 9)) F.2.2.1 μ) ∧ (σ' 4000 = (nI (fo (rg n (nI 0) (nI t)) (if F.1 = 0 then 0 else 9)))) ∧ (σ' 4002 = (nI (if rg n (nI 0) (nI t) = 0 then 0 else t))) ∧ (σ' 4003 = (if rg n (nI 0) (nI t) = 0 then nI F.1 else fk)) ∧ (σ' 4004 = (if rg n (nI 0) (nI t) = 0 then (if F.1 = 0 then -1 else nI (txS tp (toN n) F.2.1)) else fp)) ∧ (TX 4100 σ' (if rg n (nI 0) (nI t) = 0 then 0 else t) tp) ∧ (LR 0 σ' (if fo (rg n (nI 0) (nI t)) (if F.1 = 0 then 0 else 9) = 0 then 0 else nt) g) ∧ (∀ a, (1056 ≤ a ∧ a ≠ 4000 ∧ a ≠ 4002 ∧ a ≠ 4003 ∧ a ≠ 4004 ∧ (a < 4900 ∨ 6000 ≤ a)) → σ' a = σ a)) := hQ
  have hN8 := mi_8 hI
  have hcFR_σ : ∀ a, (1056 ≤ a ∧ a ≠ 4000 ∧ a ≠ 4002 ∧ a ≠ 4003 ∧ a ≠ 4004 ∧ (a < 4900 ∨ 6000 ≤ a)) → σ a = σ a := fun _ _ => rfl
  show G X w 3 0 [(0, .ref (w.1 0)), (1, .int n)] [] σ
  refine g_iload_n h dX12_load_0 1 rfl ?_
  refine g_iconst h dX12_load_1 (by decide) ?_
  refine g_aload_n h dX12_load_2 0 rfl ?_
  refine g_geti h dX12_load_3 gX12_178 sc_0 rfl ?_
  refine g_top (y := (nI t)) (by first | exact ht4002_σ | assumption) ?_
  refine g_cspi (rest := []) h (r_isFrom hW n (nI 0) (nI t) ) lX12_isFrom mX12_134 (Nat.lt_of_lt_of_le (by decide) (Nat.le_refl _)) (by decide) rfl rfl rfl dX12_load_6 ?_
  refine g_ifB_ne h dX12_load_9 (fun c9 => ?_) (fun c9 => ?_)
  ·
    have hs1 : rg n (nI 0) (nI t) = 0 := by unfold rg; rw [if_pos c9]
    obtain ⟨en, hn9⟩ := rg_N (by omega) hs1
    rw [en]
    show G X w 3 18 [(0, .ref (w.1 0)), (1, .int (nI (toN n)))] [] σ
    refine g_aload_n h dX12_load_18 0 rfl ?_
    refine g_iload_n h dX12_load_19 1 rfl ?_
    refine g_puti h dX12_load_20 pX12_184 sc_0 rfl ?_
    refine g_nm (fun σ_1 eσ_1 => ?_)
    have eσ_1 : σ_1 = upd σ 5004 (nI (toN n)) := eσ_1
    have ht4002_σ_1 : σ_1 4002 = (nI t) := by rw [eσ_1, upd_ne (by first | omega | (simp only [vb] at *; omega))]; first | exact ht4002_σ | assumption
    have ht4003_σ_1 : σ_1 4003 = fk := by rw [eσ_1, upd_ne (by first | omega | (simp only [vb] at *; omega))]; first | exact ht4003_σ | assumption
    have ht4004_σ_1 : σ_1 4004 = fp := by rw [eσ_1, upd_ne (by first | omega | (simp only [vb] at *; omega))]; first | exact ht4004_σ | assumption
    have ht5004_σ_1 : σ_1 5004 = (nI (toN n)) := by rw [eσ_1]; exact upd_eq
    have hcTP_σ_1 : TX 4100 σ_1 t tp := by rw [eσ_1]; exact TX.fr hcTP_σ (fun a ha hb => upd_ne (by first | omega | (simp only [vb] at *; omega)))
    have hcLR_σ_1 : LR 0 σ_1 nt g := by rw [eσ_1]; exact LR.fr hcLR_σ (fun a ha => upd_ne (by first | omega | (simp only [vb] at *; omega)))
    have hcFR_σ_1 : ∀ a, (1056 ≤ a ∧ a ≠ 4000 ∧ a ≠ 4002 ∧ a ≠ 4003 ∧ a ≠ 4004 ∧ (a < 4900 ∨ 6000 ≤ a)) → σ_1 a = σ a := by intro a ha; exact Eq.trans (b := σ a) (by rw [eσ_1, upd_ne (by first | omega | (simp only [vb] at *; omega))]) (hcFR_σ a ha)
    have hvσ_1 : vw 0 σ_1 = μ := by rw [eσ_1, vw_out (by omega)]; first | exact hv | assumption
    refine g_iconst h dX12_load_23 (by decide) ?_
    refine g_istore_n (L' := [(0, .ref (w.1 0)), (1, .int (nI (toN n))), (2, .int (nI 0))]) h dX12_load_24 rfl (by decide) rfl ?_
    have hcTX_σ_1 : TX 5600 σ_1 0 tp := fun k hk => absurd hk (Nat.not_lt_zero _)
    have lp25 : ∀ (k9 : Nat) (k : Nat) (τ : Mem), (k ≤ (toN n)) → (vw 0 τ = μ) → (τ 4002 = (nI t)) → (τ 4003 = fk) → (τ 4004 = fp) → (τ 5004 = (nI (toN n))) → (TX 4100 τ t tp) → (LR 0 τ nt g) → (∀ a, (1056 ≤ a ∧ a ≠ 4000 ∧ a ≠ 4002 ∧ a ≠ 4003 ∧ a ≠ 4004 ∧ (a < 4900 ∨ 6000 ≤ a)) → τ a = σ a) → (TX 5600 τ k tp) → (toN n) - k < k9 → G X w 3 25 [(0, .ref (w.1 0)), (1, .int (nI (toN n))), (2, .int (nI k))] [] (τ) := by
      intro k9
      induction k9 with
      | zero => intro k τ hk hvτ ht4002_τ ht4003_τ ht4004_τ ht5004_τ hcTP_τ hcLR_τ hcFR_τ hcTX_τ hm9; exact absurd hm9 (Nat.not_lt_zero _)
      | succ k9 ih25 =>
        intro k τ hk hvτ ht4002_τ ht4003_τ ht4004_τ ht5004_τ hcTP_τ hcLR_τ hcFR_τ hcTX_τ hm25
        refine g_iload_n h dX12_load_25 2 rfl ?_
        refine g_iload_n h dX12_load_26 1 rfl ?_
        refine g_icmpN_ge h dX12_load_27 (by omega) (by omega) (fun c27 => ?_) (fun c27 => ?_)
        ·
          have hcTX_τ : TX 5600 τ (toN n) tp := by rw [show (toN n) = k from by omega]; exact hcTX_τ
          refine g_aload_n h dX12_load_48 0 rfl ?_
          refine g_iconst h dX12_load_49 (by decide) ?_
          refine g_puti h dX12_load_50 pX12_178 sc_0 rfl ?_
          refine g_nm (fun σ_2 eσ_2 => ?_)
          have eσ_2 : σ_2 = upd (τ) 4002 (nI 0) := eσ_2
          have ht4002_σ_2 : σ_2 4002 = (nI 0) := by rw [eσ_2]; exact upd_eq
          have ht4003_σ_2 : σ_2 4003 = fk := by rw [eσ_2, upd_ne (by first | omega | (simp only [vb] at *; omega))]; first | exact ht4003_τ | assumption
          have ht4004_σ_2 : σ_2 4004 = fp := by rw [eσ_2, upd_ne (by first | omega | (simp only [vb] at *; omega))]; first | exact ht4004_τ | assumption
          have ht5004_σ_2 : σ_2 5004 = (nI (toN n)) := by rw [eσ_2, upd_ne (by first | omega | (simp only [vb] at *; omega))]; first | exact ht5004_τ | assumption
          have hcTP_σ_2 : TX 4100 σ_2 t tp := by rw [eσ_2]; exact TX.fr hcTP_τ (fun a ha hb => upd_ne (by first | omega | (simp only [vb] at *; omega)))
          have hcLR_σ_2 : LR 0 σ_2 nt g := by rw [eσ_2]; exact LR.fr hcLR_τ (fun a ha => upd_ne (by first | omega | (simp only [vb] at *; omega)))
          have hcFR_σ_2 : ∀ a, (1056 ≤ a ∧ a ≠ 4000 ∧ a ≠ 4002 ∧ a ≠ 4003 ∧ a ≠ 4004 ∧ (a < 4900 ∨ 6000 ≤ a)) → σ_2 a = σ a := by intro a ha; exact Eq.trans (b := (τ) a) (by rw [eσ_2, upd_ne (by first | omega | (simp only [vb] at *; omega))]) (hcFR_τ a ha)
          have hcTX_σ_2 : TX 5600 σ_2 (toN n) tp := by rw [eσ_2]; exact TX.fr hcTX_τ (fun a ha hb => upd_ne (by first | omega | (simp only [vb] at *; omega)))
          have hvσ_2 : vw 0 σ_2 = μ := by rw [eσ_2, vw_out (by omega)]; first | exact hvτ | assumption
          refine g_aload_n h dX12_load_53 0 rfl ?_
          refine g_iconst h dX12_load_54 (by decide) ?_
          refine g_puti h dX12_load_55 pX12_223 sc_0 rfl ?_
          refine g_nm (fun σ_3 eσ_3 => ?_)
          have eσ_3 : σ_3 = upd σ_2 5009 (nI 0) := eσ_3
          have ht4002_σ_3 : σ_3 4002 = (nI 0) := by rw [eσ_3, upd_ne (by first | omega | (simp only [vb] at *; omega))]; first | exact ht4002_σ_2 | assumption
          have ht4003_σ_3 : σ_3 4003 = fk := by rw [eσ_3, upd_ne (by first | omega | (simp only [vb] at *; omega))]; first | exact ht4003_σ_2 | assumption
          have ht4004_σ_3 : σ_3 4004 = fp := by rw [eσ_3, upd_ne (by first | omega | (simp only [vb] at *; omega))]; first | exact ht4004_σ_2 | assumption
          have ht5004_σ_3 : σ_3 5004 = (nI (toN n)) := by rw [eσ_3, upd_ne (by first | omega | (simp only [vb] at *; omega))]; first | exact ht5004_σ_2 | assumption
          have ht5009_σ_3 : σ_3 5009 = (nI 0) := by rw [eσ_3]; exact upd_eq
          have hcTP_σ_3 : TX 4100 σ_3 t tp := by rw [eσ_3]; exact TX.fr hcTP_σ_2 (fun a ha hb => upd_ne (by first | omega | (simp only [vb] at *; omega)))
          have hcLR_σ_3 : LR 0 σ_3 nt g := by rw [eσ_3]; exact LR.fr hcLR_σ_2 (fun a ha => upd_ne (by first | omega | (simp only [vb] at *; omega)))
          have hcFR_σ_3 : ∀ a, (1056 ≤ a ∧ a ≠ 4000 ∧ a ≠ 4002 ∧ a ≠ 4003 ∧ a ≠ 4004 ∧ (a < 4900 ∨ 6000 ≤ a)) → σ_3 a = σ a := by intro a ha; exact Eq.trans (b := σ_2 a) (by rw [eσ_3, upd_ne (by first | omega | (simp only [vb] at *; omega))]) (hcFR_σ_2 a ha)
          have hcTX_σ_3 : TX 5600 σ_3 (toN n) tp := by rw [eσ_3]; exact TX.fr hcTX_σ_2 (fun a ha hb => upd_ne (by first | omega | (simp only [vb] at *; omega)))
          have hvσ_3 : vw 0 σ_3 = μ := by rw [eσ_3, vw_out (by omega)]; first | exact hvσ_2 | assumption
          refine g_aload_n h dX12_load_58 0 rfl ?_
          refine g_iconstv h dX12_load_59 (v := (-1)) (by decide) ?_
          refine g_puti h dX12_load_60 pX12_35 sc_0 rfl ?_
          refine g_nm (fun σf eσf => ?_)
          have eσf : σf = upd σ_3 4004 (-1) := eσf
          have ht4002_σf : σf 4002 = (nI 0) := by rw [eσf, upd_ne (by first | omega | (simp only [vb] at *; omega))]; first | exact ht4002_σ_3 | assumption
          have ht4003_σf : σf 4003 = fk := by rw [eσf, upd_ne (by first | omega | (simp only [vb] at *; omega))]; first | exact ht4003_σ_3 | assumption
          have ht4004_σf : σf 4004 = (-1) := by rw [eσf]; exact upd_eq
          have ht5004_σf : σf 5004 = (nI (toN n)) := by rw [eσf, upd_ne (by first | omega | (simp only [vb] at *; omega))]; first | exact ht5004_σ_3 | assumption
          have ht5009_σf : σf 5009 = (nI 0) := by rw [eσf, upd_ne (by first | omega | (simp only [vb] at *; omega))]; first | exact ht5009_σ_3 | assumption
          have hcTP_σf : TX 4100 σf t tp := by rw [eσf]; exact TX.fr hcTP_σ_3 (fun a ha hb => upd_ne (by first | omega | (simp only [vb] at *; omega)))
          have hcLR_σf : LR 0 σf nt g := by rw [eσf]; exact LR.fr hcLR_σ_3 (fun a ha => upd_ne (by first | omega | (simp only [vb] at *; omega)))
          have hcFR_σf : ∀ a, (1056 ≤ a ∧ a ≠ 4000 ∧ a ≠ 4002 ∧ a ≠ 4003 ∧ a ≠ 4004 ∧ (a < 4900 ∨ 6000 ≤ a)) → σf a = σ a := by intro a ha; exact Eq.trans (b := σ_3 a) (by rw [eσf, upd_ne (by first | omega | (simp only [vb] at *; omega))]) (hcFR_σ_3 a ha)
          have hcTX_σf : TX 5600 σf (toN n) tp := by rw [eσf]; exact TX.fr hcTX_σ_3 (fun a ha hb => upd_ne (by first | omega | (simp only [vb] at *; omega)))
          have hvσf : vw 0 σf = μ := by rw [eσf, vw_out (by omega)]; first | exact hvσ_3 | assumption
          refine g_aload_n h dX12_load_63 0 rfl ?_
          refine g_iconst h dX12_load_64 (by decide) ?_
          refine g_puti h dX12_load_65 pX12_247 sc_0 rfl ?_
          refine g_nm (fun σg eσg => ?_)
          have eσg : σg = upd σf 5010 (nI 0) := eσg
          have ht4002_σg : σg 4002 = (nI 0) := by rw [eσg, upd_ne (by first | omega | (simp only [vb] at *; omega))]; first | exact ht4002_σf | assumption
          have ht4003_σg : σg 4003 = fk := by rw [eσg, upd_ne (by first | omega | (simp only [vb] at *; omega))]; first | exact ht4003_σf | assumption
          have ht4004_σg : σg 4004 = (-1) := by rw [eσg, upd_ne (by first | omega | (simp only [vb] at *; omega))]; first | exact ht4004_σf | assumption
          have ht5004_σg : σg 5004 = (nI (toN n)) := by rw [eσg, upd_ne (by first | omega | (simp only [vb] at *; omega))]; first | exact ht5004_σf | assumption
          have ht5009_σg : σg 5009 = (nI 0) := by rw [eσg, upd_ne (by first | omega | (simp only [vb] at *; omega))]; first | exact ht5009_σf | assumption
          have hcTP_σg : TX 4100 σg t tp := by rw [eσg]; exact TX.fr hcTP_σf (fun a ha hb => upd_ne (by first | omega | (simp only [vb] at *; omega)))
          have hcLR_σg : LR 0 σg nt g := by rw [eσg]; exact LR.fr hcLR_σf (fun a ha => upd_ne (by first | omega | (simp only [vb] at *; omega)))
          have hcFR_σg : ∀ a, (1056 ≤ a ∧ a ≠ 4000 ∧ a ≠ 4002 ∧ a ≠ 4003 ∧ a ≠ 4004 ∧ (a < 4900 ∨ 6000 ≤ a)) → σg a = σ a := by intro a ha; exact Eq.trans (b := σf a) (by rw [eσg, upd_ne (by first | omega | (simp only [vb] at *; omega))]) (hcFR_σf a ha)
          have hcTX_σg : TX 5600 σg (toN n) tp := by rw [eσg]; exact TX.fr hcTX_σf (fun a ha hb => upd_ne (by first | omega | (simp only [vb] at *; omega)))
          have hvσg : vw 0 σg = μ := by rw [eσg, vw_out (by omega)]; first | exact hvσf | assumption
          have hcTD_σg : TD σg false false := td_0 (by rw [eσg]; exact upd_eq)
          refine g_aload_n h dX12_load_68 0 rfl ?_
          refine g_iconst h dX12_load_69 (by decide) ?_
          refine g_puti h dX12_load_70 pX12_187 sc_0 rfl ?_
          refine g_nm (fun σ_4 eσ_4 => ?_)
          have eσ_4 : σ_4 = upd σg 5007 (nI 0) := eσ_4
          have ht4002_σ_4 : σ_4 4002 = (nI 0) := by rw [eσ_4, upd_ne (by first | omega | (simp only [vb] at *; omega))]; first | exact ht4002_σg | assumption
          have ht4003_σ_4 : σ_4 4003 = fk := by rw [eσ_4, upd_ne (by first | omega | (simp only [vb] at *; omega))]; first | exact ht4003_σg | assumption
          have ht4004_σ_4 : σ_4 4004 = (-1) := by rw [eσ_4, upd_ne (by first | omega | (simp only [vb] at *; omega))]; first | exact ht4004_σg | assumption
          have ht5004_σ_4 : σ_4 5004 = (nI (toN n)) := by rw [eσ_4, upd_ne (by first | omega | (simp only [vb] at *; omega))]; first | exact ht5004_σg | assumption
          have ht5009_σ_4 : σ_4 5009 = (nI 0) := by rw [eσ_4, upd_ne (by first | omega | (simp only [vb] at *; omega))]; first | exact ht5009_σg | assumption
          have ht5007_σ_4 : σ_4 5007 = (nI 0) := by rw [eσ_4]; exact upd_eq
          have hcTP_σ_4 : TX 4100 σ_4 t tp := by rw [eσ_4]; exact TX.fr hcTP_σg (fun a ha hb => upd_ne (by first | omega | (simp only [vb] at *; omega)))
          have hcLR_σ_4 : LR 0 σ_4 nt g := by rw [eσ_4]; exact LR.fr hcLR_σg (fun a ha => upd_ne (by first | omega | (simp only [vb] at *; omega)))
          have hcFR_σ_4 : ∀ a, (1056 ≤ a ∧ a ≠ 4000 ∧ a ≠ 4002 ∧ a ≠ 4003 ∧ a ≠ 4004 ∧ (a < 4900 ∨ 6000 ≤ a)) → σ_4 a = σ a := by intro a ha; exact Eq.trans (b := σg a) (by rw [eσ_4, upd_ne (by first | omega | (simp only [vb] at *; omega))]) (hcFR_σg a ha)
          have hcTX_σ_4 : TX 5600 σ_4 (toN n) tp := by rw [eσ_4]; exact TX.fr hcTX_σg (fun a ha hb => upd_ne (by first | omega | (simp only [vb] at *; omega)))
          have hcTD_σ_4 : TD σ_4 false false := by rw [eσ_4]; exact TD.fr hcTD_σg (upd_ne (by first | omega | (simp only [vb] at *; omega)))
          have hvσ_4 : vw 0 σ_4 = μ := by rw [eσ_4, vw_out (by omega)]; first | exact hvσg | assumption
          refine g_aload_n h dX12_load_73 0 rfl ?_
          refine g_iconst h dX12_load_74 (by decide) ?_
          refine g_sipush h dX12_load_75 (by decide) ?_
          refine g_cvv (rest := []) h (r_save hW nt g μ (by first | exact hvσ_4 | assumption | fail) (by exact hcLR_σ_4)) lX12_copies mX12_275 (Nat.lt_of_lt_of_le (by decide) (Nat.le_refl _)) (by decide) sc_0 rfl rfl rfl rfl dX12_load_78 (fun σ_5 eσ_5 => ?_)
          obtain ⟨eσ_5_a, eσ_5_b, eσ_5_c⟩ := eσ_5
          have eσ_5_a : vw 528 σ_5 = μ := eσ_5_a
          have eσ_5_b : LR 528 σ_5 nt g := eσ_5_b
          have eσ_5_c : ∀ a, (a < 528 ∨ 1056 ≤ a) → σ_5 a = σ_4 a := eσ_5_c
          have ht4002_σ_5 : σ_5 4002 = (nI 0) := by rw [eσ_5_c _ (by first | omega | (simp only [vb] at *; omega))]; first | exact ht4002_σ_4 | assumption
          have ht4003_σ_5 : σ_5 4003 = fk := by rw [eσ_5_c _ (by first | omega | (simp only [vb] at *; omega))]; first | exact ht4003_σ_4 | assumption
          have ht4004_σ_5 : σ_5 4004 = (-1) := by rw [eσ_5_c _ (by first | omega | (simp only [vb] at *; omega))]; first | exact ht4004_σ_4 | assumption
          have ht5004_σ_5 : σ_5 5004 = (nI (toN n)) := by rw [eσ_5_c _ (by first | omega | (simp only [vb] at *; omega))]; first | exact ht5004_σ_4 | assumption
          have ht5009_σ_5 : σ_5 5009 = (nI 0) := by rw [eσ_5_c _ (by first | omega | (simp only [vb] at *; omega))]; first | exact ht5009_σ_4 | assumption
          have ht5007_σ_5 : σ_5 5007 = (nI 0) := by rw [eσ_5_c _ (by first | omega | (simp only [vb] at *; omega))]; first | exact ht5007_σ_4 | assumption
          have hcTP_σ_5 : TX 4100 σ_5 t tp := by exact TX.fr hcTP_σ_4 (fun a ha hb => eσ_5_c a (by first | omega | (simp only [vb] at *; omega)))
          have hcLR_σ_5 : LR 0 σ_5 nt g := by exact LR.fr hcLR_σ_4 (fun a ha => eσ_5_c a (by first | omega | (simp only [vb] at *; omega)))
          have hcFR_σ_5 : ∀ a, (1056 ≤ a ∧ a ≠ 4000 ∧ a ≠ 4002 ∧ a ≠ 4003 ∧ a ≠ 4004 ∧ (a < 4900 ∨ 6000 ≤ a)) → σ_5 a = σ a := by intro a ha; exact Eq.trans (b := σ_4 a) (eσ_5_c a (by first | omega | (simp only [vb] at *; omega))) (hcFR_σ_4 a ha)
          have hcTX_σ_5 : TX 5600 σ_5 (toN n) tp := by exact TX.fr hcTX_σ_4 (fun a ha hb => eσ_5_c a (by first | omega | (simp only [vb] at *; omega)))
          have hcTD_σ_5 : TD σ_5 false false := by exact TD.fr hcTD_σ_4 (eσ_5_c _ (by first | omega | (simp only [vb] at *; omega)))
          have hcVS_σ_5 : vw 528 σ_5 = μ := eσ_5_a
          have hcLS_σ_5 : LR 528 σ_5 nt g := eσ_5_b
          have hvσ_5 : vw 0 σ_5 = μ := by rw [vw_fr (σ := σ_4) (fun j _ _ => eσ_5_c _ (by first | omega | (simp only [vb] at *; omega)))]; first | exact hvσ_4 | assumption
          refine g_aload_n h dX12_load_81 0 rfl ?_
          refine g_cvv (rest := []) h (r_beginsT hW g ) lX12_begins mX12_51 (Nat.lt_of_lt_of_le (by decide) (Nat.le_refl _)) (by decide) sc_0 rfl rfl rfl rfl dX12_load_82 (fun σ_6 eσ_6 => ?_)
          obtain ⟨eσ_6_a, eσ_6_b, eσ_6_c⟩ := eσ_6
          have eσ_6_a : vw 0 σ_6 = bgP := eσ_6_a
          have eσ_6_b : LR 0 σ_6 0 g := eσ_6_b
          have eσ_6_c : ∀ a, (528 ≤ a) → σ_6 a = σ_5 a := eσ_6_c
          have ht4002_σ_6 : σ_6 4002 = (nI 0) := by rw [eσ_6_c _ (by first | omega | (simp only [vb] at *; omega))]; first | exact ht4002_σ_5 | assumption
          have ht4003_σ_6 : σ_6 4003 = fk := by rw [eσ_6_c _ (by first | omega | (simp only [vb] at *; omega))]; first | exact ht4003_σ_5 | assumption
          have ht4004_σ_6 : σ_6 4004 = (-1) := by rw [eσ_6_c _ (by first | omega | (simp only [vb] at *; omega))]; first | exact ht4004_σ_5 | assumption
          have ht5004_σ_6 : σ_6 5004 = (nI (toN n)) := by rw [eσ_6_c _ (by first | omega | (simp only [vb] at *; omega))]; first | exact ht5004_σ_5 | assumption
          have ht5009_σ_6 : σ_6 5009 = (nI 0) := by rw [eσ_6_c _ (by first | omega | (simp only [vb] at *; omega))]; first | exact ht5009_σ_5 | assumption
          have ht5007_σ_6 : σ_6 5007 = (nI 0) := by rw [eσ_6_c _ (by first | omega | (simp only [vb] at *; omega))]; first | exact ht5007_σ_5 | assumption
          have hcTP_σ_6 : TX 4100 σ_6 t tp := by exact TX.fr hcTP_σ_5 (fun a ha hb => eσ_6_c a (by first | omega | (simp only [vb] at *; omega)))
          have hcFR_σ_6 : ∀ a, (1056 ≤ a ∧ a ≠ 4000 ∧ a ≠ 4002 ∧ a ≠ 4003 ∧ a ≠ 4004 ∧ (a < 4900 ∨ 6000 ≤ a)) → σ_6 a = σ a := by intro a ha; exact Eq.trans (b := σ_5 a) (eσ_6_c a (by first | omega | (simp only [vb] at *; omega))) (hcFR_σ_5 a ha)
          have hcTX_σ_6 : TX 5600 σ_6 (toN n) tp := by exact TX.fr hcTX_σ_5 (fun a ha hb => eσ_6_c a (by first | omega | (simp only [vb] at *; omega)))
          have hcTD_σ_6 : TD σ_6 false false := by exact TD.fr hcTD_σ_5 (eσ_6_c _ (by first | omega | (simp only [vb] at *; omega)))
          have hcVS_σ_6 : vw 528 σ_6 = μ := by rw [vw_fr (fun j _ _ => eσ_6_c _ (by omega))]; exact hcVS_σ_5
          have hcLS_σ_6 : LR 528 σ_6 nt g := by exact LR.fr hcLS_σ_5 (fun a ha => eσ_6_c a (by first | omega | (simp only [vb] at *; omega)))
          have hcLR_σ_6 : LR 0 σ_6 0 g := eσ_6_b
          obtain ⟨μ_7, eμ_7⟩ : ∃ μ_7 : Nat → Int32, μ_7 = bgP := ⟨_, rfl⟩
          have hvσ_6 : vw 0 σ_6 = μ_7 := by rw [eμ_7]; exact eσ_6_a
          refine g_aload_n h dX12_load_85 0 rfl ?_
          refine g_cvv (rest := []) h (r_ahead hW 0 (toN n) tp (by first | omega | assumption | fail) (by first | omega | assumption | fail) (by first | exact ht5004_σ_6 | assumption | fail) (by first | exact ht5007_σ_6 | assumption | fail) (by first | exact hcTX_σ_6 | assumption | fail)) lX12_ahead mX12_229 (Nat.lt_of_lt_of_le (by decide) (Nat.le_refl _)) (by decide) sc_0 rfl rfl rfl rfl dX12_load_86 (fun σ_8 eσ_8 => ?_)
          obtain ⟨eσ_8_a, eσ_8_b, eσ_8_c, eσ_8_d, eσ_8_e, eσ_8_f, eσ_8_g⟩ := eσ_8
          have eσ_8_a : σ_8 5004 = (nI (toN n)) := eσ_8_a
          have eσ_8_b : σ_8 5005 = (nI (kr (txK tp (toN n) 0))) := eσ_8_b
          have eσ_8_c : σ_8 5006 = (nI (txS tp (toN n) 0)) := eσ_8_c
          have eσ_8_d : σ_8 5007 = (nI (txE tp (toN n) 0)) := eσ_8_d
          have eσ_8_e : TX 5600 σ_8 (toN n) tp := eσ_8_e
          have eσ_8_f : VL σ_8 tp (toN n) 0 := eσ_8_f
          have eσ_8_g : ∀ a, (a < 5005 ∨ 5008 < a) → σ_8 a = σ_6 a := eσ_8_g
          have ht4002_σ_8 : σ_8 4002 = (nI 0) := by rw [eσ_8_g _ (by first | omega | (simp only [vb] at *; omega))]; first | exact ht4002_σ_6 | assumption
          have ht4003_σ_8 : σ_8 4003 = fk := by rw [eσ_8_g _ (by first | omega | (simp only [vb] at *; omega))]; first | exact ht4003_σ_6 | assumption
          have ht4004_σ_8 : σ_8 4004 = (-1) := by rw [eσ_8_g _ (by first | omega | (simp only [vb] at *; omega))]; first | exact ht4004_σ_6 | assumption
          have ht5009_σ_8 : σ_8 5009 = (nI 0) := by rw [eσ_8_g _ (by first | omega | (simp only [vb] at *; omega))]; first | exact ht5009_σ_6 | assumption
          have ht5004_σ_8 : σ_8 5004 = (nI (toN n)) := eσ_8_a
          have ht5005_σ_8 : σ_8 5005 = (nI (kr (txK tp (toN n) 0))) := eσ_8_b
          have ht5006_σ_8 : σ_8 5006 = (nI (txS tp (toN n) 0)) := eσ_8_c
          have ht5007_σ_8 : σ_8 5007 = (nI (txE tp (toN n) 0)) := eσ_8_d
          have hcTP_σ_8 : TX 4100 σ_8 t tp := by exact TX.fr hcTP_σ_6 (fun a ha hb => eσ_8_g a (by first | omega | (simp only [vb] at *; omega)))
          have hcFR_σ_8 : ∀ a, (1056 ≤ a ∧ a ≠ 4000 ∧ a ≠ 4002 ∧ a ≠ 4003 ∧ a ≠ 4004 ∧ (a < 4900 ∨ 6000 ≤ a)) → σ_8 a = σ a := by intro a ha; exact Eq.trans (b := σ_6 a) (eσ_8_g a (by first | omega | (simp only [vb] at *; omega))) (hcFR_σ_6 a ha)
          have hcTX_σ_8 : TX 5600 σ_8 (toN n) tp := eσ_8_e
          have hcTD_σ_8 : TD σ_8 false false := by exact TD.fr hcTD_σ_6 (eσ_8_g _ (by first | omega | (simp only [vb] at *; omega)))
          have hcVS_σ_8 : vw 528 σ_8 = μ := by rw [vw_fr (fun j _ _ => eσ_8_g _ (by omega))]; exact hcVS_σ_6
          have hcLS_σ_8 : LR 528 σ_8 nt g := by exact LR.fr hcLS_σ_6 (fun a ha => eσ_8_g a (by first | omega | (simp only [vb] at *; omega)))
          have hcLR_σ_8 : LR 0 σ_8 0 g := by exact LR.fr hcLR_σ_6 (fun a ha => eσ_8_g a (by first | omega | (simp only [vb] at *; omega)))
          have hcVL_σ_8 : VL σ_8 tp (toN n) 0 := eσ_8_f
          have hvσ_8 : vw 0 σ_8 = μ_7 := by rw [vw_fr (σ := σ_6) (fun j _ _ => eσ_8_g _ (by first | omega | (simp only [vb] at *; omega)))]; first | exact hvσ_6 | assumption
          refine g_iconst h dX12_load_89 (by decide) ?_
          refine g_istore_n (L' := [(0, .ref (w.1 0)), (1, .int (nI (toN n))), (2, .int (nI 1))]) h dX12_load_90 rfl (by decide) rfl ?_
          have lp91 : ∀ (k9 : Nat) (gd : Bool) (τ : Mem) (i : Nat), (gd = decide ((tx9 tp (toN n) i).1 = 0)) → (i ≤ 400) → ((tx9 tp (toN n) i).1 = 0 → TD τ (tx9 tp (toN n) i).2.2.2.1 (tx9 tp (toN n) i).2.2.2.2) → (vw 0 τ = (tx9 tp (toN n) i).2.2.1) → (τ 4002 = (nI 0)) → (τ 4003 = fk) → (τ 4004 = (if (tx9 tp (toN n) i).1 = 0 then -1 else nI (txS tp (toN n) (tx9 tp (toN n) i).2.1))) → (τ 5009 = (nI ((tx9 tp (toN n) i).1))) → (τ 5004 = (nI (toN n))) → (τ 5005 = (nI (kr (txK tp (toN n) (tx9 tp (toN n) i).2.1)))) → (τ 5006 = (nI (txS tp (toN n) (tx9 tp (toN n) i).2.1))) → (τ 5007 = (nI (txE tp (toN n) (tx9 tp (toN n) i).2.1))) → (TX 4100 τ t tp) → (∀ a, (1056 ≤ a ∧ a ≠ 4000 ∧ a ≠ 4002 ∧ a ≠ 4003 ∧ a ≠ 4004 ∧ (a < 4900 ∨ 6000 ≤ a)) → τ a = σ a) → (TX 5600 τ (toN n) tp) → (vw 528 τ = μ) → (LR 528 τ nt g) → (LR 0 τ 0 g) → (VL τ tp (toN n) (tx9 tp (toN n) i).2.1) → 401 - i < k9 → G X w 3 91 [(0, .ref (w.1 0)), (1, .int (nI (toN n))), (2, .int (b2i gd))] [] (τ) := by
            intro k9
            induction k9 with
            | zero => intro gd τ i hgd hi4 hTD hvτ ht4002_τ ht4003_τ ht4004_τ ht5009_τ ht5004_τ ht5005_τ ht5006_τ ht5007_τ hcTP_τ hcFR_τ hcTX_τ hcVS_τ hcLS_τ hcLR_τ hcVL_τ hm9; exact absurd hm9 (Nat.not_lt_zero _)
            | succ k9 ih91 =>
              intro gd τ i hgd hi4 hTD hvτ ht4002_τ ht4003_τ ht4004_τ ht5009_τ ht5004_τ ht5005_τ ht5006_τ ht5007_τ hcTP_τ hcFR_τ hcTX_τ hcVS_τ hcLS_τ hcLR_τ hcVL_τ hm91
              obtain ⟨hA1, hA2, hA3⟩ := tx9_ok (x := tp) (L := (toN n)) i
              have hkr := (kr_i (x := tp) (L := (toN n)) (e := (tx9 tp (toN n) i).2.1)).2.2.2.2.2
              refine g_iload_n h dX12_load_91 2 rfl ?_
              refine g_ifB_eq h dX12_load_92 (fun c92 => ?_) (fun c92 => ?_)
              ·
                have hEnd : F = (tx9 tp (toN n) i) := hFe.trans (tx9_fin (by omega) (fun z => of_decide_eq_false (hgd.symm.trans c92) z.1))
                refine g_aload_n h dX12_load_110 0 rfl ?_
                refine g_aload_n h dX12_load_111 0 rfl ?_
                refine g_geti h dX12_load_112 gX12_223 sc_0 rfl ?_
                refine g_top (y := (nI ((tx9 tp (toN n) i).1))) (by first | exact ht5009_τ | assumption) ?_
                refine g_puti h dX12_load_115 pX12_39 sc_0 rfl ?_
                refine g_nm (fun σ_9 eσ_9 => ?_)
                have eσ_9 : σ_9 = upd (τ) 4003 (nI ((tx9 tp (toN n) i).1)) := eσ_9
                have ht4002_σ_9 : σ_9 4002 = (nI 0) := by rw [eσ_9, upd_ne (by first | omega | (simp only [vb] at *; omega))]; first | exact ht4002_τ | assumption
                have ht4003_σ_9 : σ_9 4003 = (nI ((tx9 tp (toN n) i).1)) := by rw [eσ_9]; exact upd_eq
                have ht4004_σ_9 : σ_9 4004 = (if (tx9 tp (toN n) i).1 = 0 then -1 else nI (txS tp (toN n) (tx9 tp (toN n) i).2.1)) := by rw [eσ_9, upd_ne (by first | omega | (simp only [vb] at *; omega))]; first | exact ht4004_τ | assumption
                have ht5009_σ_9 : σ_9 5009 = (nI ((tx9 tp (toN n) i).1)) := by rw [eσ_9, upd_ne (by first | omega | (simp only [vb] at *; omega))]; first | exact ht5009_τ | assumption
                have ht5004_σ_9 : σ_9 5004 = (nI (toN n)) := by rw [eσ_9, upd_ne (by first | omega | (simp only [vb] at *; omega))]; first | exact ht5004_τ | assumption
                have ht5005_σ_9 : σ_9 5005 = (nI (kr (txK tp (toN n) (tx9 tp (toN n) i).2.1))) := by rw [eσ_9, upd_ne (by first | omega | (simp only [vb] at *; omega))]; first | exact ht5005_τ | assumption
                have ht5006_σ_9 : σ_9 5006 = (nI (txS tp (toN n) (tx9 tp (toN n) i).2.1)) := by rw [eσ_9, upd_ne (by first | omega | (simp only [vb] at *; omega))]; first | exact ht5006_τ | assumption
                have ht5007_σ_9 : σ_9 5007 = (nI (txE tp (toN n) (tx9 tp (toN n) i).2.1)) := by rw [eσ_9, upd_ne (by first | omega | (simp only [vb] at *; omega))]; first | exact ht5007_τ | assumption
                have hcTP_σ_9 : TX 4100 σ_9 t tp := by rw [eσ_9]; exact TX.fr hcTP_τ (fun a ha hb => upd_ne (by first | omega | (simp only [vb] at *; omega)))
                have hcFR_σ_9 : ∀ a, (1056 ≤ a ∧ a ≠ 4000 ∧ a ≠ 4002 ∧ a ≠ 4003 ∧ a ≠ 4004 ∧ (a < 4900 ∨ 6000 ≤ a)) → σ_9 a = σ a := by intro a ha; exact Eq.trans (b := (τ) a) (by rw [eσ_9, upd_ne (by first | omega | (simp only [vb] at *; omega))]) (hcFR_τ a ha)
                have hcTX_σ_9 : TX 5600 σ_9 (toN n) tp := by rw [eσ_9]; exact TX.fr hcTX_τ (fun a ha hb => upd_ne (by first | omega | (simp only [vb] at *; omega)))
                have hcVS_σ_9 : vw 528 σ_9 = μ := by rw [eσ_9, vw_out (by omega)]; exact hcVS_τ
                have hcLS_σ_9 : LR 528 σ_9 nt g := by rw [eσ_9]; exact LR.fr hcLS_τ (fun a ha => upd_ne (by first | omega | (simp only [vb] at *; omega)))
                have hcLR_σ_9 : LR 0 σ_9 0 g := by rw [eσ_9]; exact LR.fr hcLR_τ (fun a ha => upd_ne (by first | omega | (simp only [vb] at *; omega)))
                have hcVL_σ_9 : VL σ_9 tp (toN n) (tx9 tp (toN n) i).2.1 := by rw [eσ_9]; exact VL.fr hcVL_τ (upd_ne (by first | omega | (simp only [vb] at *; omega)))
                have hvσ_9 : vw 0 σ_9 = (tx9 tp (toN n) i).2.2.1 := by rw [eσ_9, vw_out (by omega)]; first | exact hvτ | assumption
                refine g_aload_n h dX12_load_118 0 rfl ?_
                refine g_geti h dX12_load_119 gX12_223 sc_0 rfl ?_
                refine g_top (y := (nI ((tx9 tp (toN n) i).1))) (by first | exact ht5009_σ_9 | assumption) ?_
                refine g_ifN_le h dX12_load_122 (by omega) (fun c122 => ?_) (fun c122 => ?_)
                ·
                  have hF9 : F.1 = 0 := by rw [hEnd]; omega
                  refine g_aload_n h dX12_load_140 0 rfl ?_
                  refine g_aload_n h dX12_load_141 0 rfl ?_
                  refine g_iconst h dX12_load_142 (by decide) ?_
                  refine g_cvpi (rest := [.ref (w.1 0)]) h (r_of hW 0 ((tx9 tp (toN n) i).2.2.1) (by assumption) (by omega)) lX12_of mX12_61 (Nat.lt_of_lt_of_le (by decide) (Nat.le_refl _)) (by decide) sc_0 rfl rfl rfl rfl dX12_load_143 ?_
                  refine g_cvi (rest := []) h (r_gives hW (((tx9 tp (toN n) i).2.2.1) 0) ) lX12_gives mX12_281 (Nat.lt_of_lt_of_le (by decide) (Nat.le_refl _)) (by decide) sc_0 rfl rfl rfl rfl dX12_load_146 (fun σ_10 eσ_10 => ?_)
                  have eσ_10_a : σ_10 = upd σ_9 4000 (nI 0) := eσ_10
                  have ht4002_σ_10 : σ_10 4002 = (nI 0) := by rw [eσ_10_a, upd_ne (by first | omega | (simp only [vb] at *; omega))]; first | exact ht4002_σ_9 | assumption
                  have ht4003_σ_10 : σ_10 4003 = (nI ((tx9 tp (toN n) i).1)) := by rw [eσ_10_a, upd_ne (by first | omega | (simp only [vb] at *; omega))]; first | exact ht4003_σ_9 | assumption
                  have ht4004_σ_10 : σ_10 4004 = (if (tx9 tp (toN n) i).1 = 0 then -1 else nI (txS tp (toN n) (tx9 tp (toN n) i).2.1)) := by rw [eσ_10_a, upd_ne (by first | omega | (simp only [vb] at *; omega))]; first | exact ht4004_σ_9 | assumption
                  have ht5009_σ_10 : σ_10 5009 = (nI ((tx9 tp (toN n) i).1)) := by rw [eσ_10_a, upd_ne (by first | omega | (simp only [vb] at *; omega))]; first | exact ht5009_σ_9 | assumption
                  have ht5004_σ_10 : σ_10 5004 = (nI (toN n)) := by rw [eσ_10_a, upd_ne (by first | omega | (simp only [vb] at *; omega))]; first | exact ht5004_σ_9 | assumption
                  have ht5005_σ_10 : σ_10 5005 = (nI (kr (txK tp (toN n) (tx9 tp (toN n) i).2.1))) := by rw [eσ_10_a, upd_ne (by first | omega | (simp only [vb] at *; omega))]; first | exact ht5005_σ_9 | assumption
                  have ht5006_σ_10 : σ_10 5006 = (nI (txS tp (toN n) (tx9 tp (toN n) i).2.1)) := by rw [eσ_10_a, upd_ne (by first | omega | (simp only [vb] at *; omega))]; first | exact ht5006_σ_9 | assumption
                  have ht5007_σ_10 : σ_10 5007 = (nI (txE tp (toN n) (tx9 tp (toN n) i).2.1)) := by rw [eσ_10_a, upd_ne (by first | omega | (simp only [vb] at *; omega))]; first | exact ht5007_σ_9 | assumption
                  have ht4000_σ_10 : σ_10 4000 = (nI 0) := by rw [eσ_10_a]; exact upd_eq
                  have hcTP_σ_10 : TX 4100 σ_10 t tp := by rw [eσ_10_a]; exact TX.fr hcTP_σ_9 (fun a ha hb => upd_ne (by first | omega | (simp only [vb] at *; omega)))
                  have hcFR_σ_10 : ∀ a, (1056 ≤ a ∧ a ≠ 4000 ∧ a ≠ 4002 ∧ a ≠ 4003 ∧ a ≠ 4004 ∧ (a < 4900 ∨ 6000 ≤ a)) → σ_10 a = σ a := by intro a ha; exact Eq.trans (b := σ_9 a) (by rw [eσ_10_a, upd_ne (by first | omega | (simp only [vb] at *; omega))]) (hcFR_σ_9 a ha)
                  have hcTX_σ_10 : TX 5600 σ_10 (toN n) tp := by rw [eσ_10_a]; exact TX.fr hcTX_σ_9 (fun a ha hb => upd_ne (by first | omega | (simp only [vb] at *; omega)))
                  have hcVS_σ_10 : vw 528 σ_10 = μ := by rw [eσ_10_a, vw_out (by omega)]; exact hcVS_σ_9
                  have hcLS_σ_10 : LR 528 σ_10 nt g := by rw [eσ_10_a]; exact LR.fr hcLS_σ_9 (fun a ha => upd_ne (by first | omega | (simp only [vb] at *; omega)))
                  have hcLR_σ_10 : LR 0 σ_10 0 g := by rw [eσ_10_a]; exact LR.fr hcLR_σ_9 (fun a ha => upd_ne (by first | omega | (simp only [vb] at *; omega)))
                  have hcVL_σ_10 : VL σ_10 tp (toN n) (tx9 tp (toN n) i).2.1 := by rw [eσ_10_a]; exact VL.fr hcVL_σ_9 (upd_ne (by first | omega | (simp only [vb] at *; omega)))
                  have hvσ_10 : vw 0 σ_10 = (tx9 tp (toN n) i).2.2.1 := by rw [eσ_10_a, vw_out (by omega)]; first | exact hvσ_9 | assumption
                  exact g_iret h hQ dX12_load_149 (congrArg (fun z => some (Value.int z)) (show (an (fo (rg n (nI 0) (nI t)) (if F.1 = 0 then 0 else 9)) (nI (nN F.2.2.1))) = (((tx9 tp (toN n) i).2.2.1) 0) by first | exact an_yes (by first | (rw [fo_l (by rw [hs1]; decide), hs1]; done) | exact (fo_r hs1).trans (if_neg hF9) | exact (fo_r hs1).trans (if_pos hF9) | fail) (by rw [hEnd]; exact (mi_0 (hA3 (by omega)).1).symm) | exact an_no (k := 0) (by first | (rw [fo_l (by rw [hs1]; decide), hs1]; done) | exact (fo_r hs1).trans (if_neg hF9) | exact (fo_r hs1).trans (if_pos hF9) | fail) (by decide) | fail)) (by exact ⟨(by first | exact pk_yes (by first | (rw [fo_l (by rw [hs1]; decide), hs1]; done) | exact (fo_r hs1).trans (if_neg hF9) | exact (fo_r hs1).trans (if_pos hF9) | fail) (by rw [hEnd]; exact hvσ_10) | exact pk_no (k := 0) (by first | (rw [fo_l (by rw [hs1]; decide), hs1]; done) | exact (fo_r hs1).trans (if_neg hF9) | exact (fo_r hs1).trans (if_pos hF9) | fail) (by decide) (by first | exact hvσ_10 | (rw [hvσ_10]; simp only [Nat.add_zero]; done)) | fail), (by exact tk_eq (k := 0) (by first | (rw [fo_l (by rw [hs1]; decide), hs1]; done) | exact (fo_r hs1).trans (if_neg hF9) | exact (fo_r hs1).trans (if_pos hF9) | fail) ht4000_σ_10), (by first | (rw [if_pos hs1]; exact ht4002_σ_10) | (rw [if_neg (by rw [hs1]; decide)]; exact ht4002_σ_10) | fail), (by first | (rw [if_pos hs1, hEnd]; exact ht4003_σ_10) | (rw [if_neg (by rw [hs1]; decide)]; exact ht4003_σ_10) | fail), (by first | (rw [if_pos hs1, hEnd]; exact ht4004_σ_10) | (rw [if_neg (by rw [hs1]; decide)]; exact ht4004_σ_10) | fail), (by first | (rw [if_pos hs1]; exact TX.le hcTP_σ_10 (by omega)) | (rw [if_neg (by rw [hs1]; decide)]; exact hcTP_σ_10) | fail), (by first | (rw [if_neg (by rw [show fo (rg n (nI 0) (nI t)) (if F.1 = 0 then 0 else 9) = 0 from by first | (rw [fo_l (by rw [hs1]; decide), hs1]; done) | exact (fo_r hs1).trans (if_neg hF9) | exact (fo_r hs1).trans (if_pos hF9) | fail]; decide)]; exact hcLR_σ_10) | exact lr_0 hcLR_σ_10 (if_pos (by first | (rw [fo_l (by rw [hs1]; decide), hs1]; done) | exact (fo_r hs1).trans (if_neg hF9) | exact (fo_r hs1).trans (if_pos hF9) | fail)) | fail), (by exact hcFR_σ_10)⟩)
                ·
                  have hF9 : ¬ F.1 = 0 := by rw [hEnd]; omega
                  refine g_aload_n h dX12_load_125 0 rfl ?_
                  refine g_sipush h dX12_load_126 (by decide) ?_
                  refine g_iconst h dX12_load_129 (by decide) ?_
                  refine g_cvv (rest := []) h (r_rest hW nt g μ (by exact hcVS_σ_9) (by exact hcLS_σ_9)) lX12_copies mX12_275 (Nat.lt_of_lt_of_le (by decide) (Nat.le_refl _)) (by decide) sc_0 rfl rfl rfl rfl dX12_load_130 (fun σ_11 eσ_11 => ?_)
                  obtain ⟨eσ_11_a, eσ_11_b, eσ_11_c⟩ := eσ_11
                  have eσ_11_a : vw 0 σ_11 = μ := eσ_11_a
                  have eσ_11_b : LR 0 σ_11 nt g := eσ_11_b
                  have eσ_11_c : ∀ a, (528 ≤ a) → σ_11 a = σ_9 a := eσ_11_c
                  have ht4002_σ_11 : σ_11 4002 = (nI 0) := by rw [eσ_11_c _ (by first | omega | (simp only [vb] at *; omega))]; first | exact ht4002_σ_9 | assumption
                  have ht4003_σ_11 : σ_11 4003 = (nI ((tx9 tp (toN n) i).1)) := by rw [eσ_11_c _ (by first | omega | (simp only [vb] at *; omega))]; first | exact ht4003_σ_9 | assumption
                  have ht4004_σ_11 : σ_11 4004 = (if (tx9 tp (toN n) i).1 = 0 then -1 else nI (txS tp (toN n) (tx9 tp (toN n) i).2.1)) := by rw [eσ_11_c _ (by first | omega | (simp only [vb] at *; omega))]; first | exact ht4004_σ_9 | assumption
                  have ht5009_σ_11 : σ_11 5009 = (nI ((tx9 tp (toN n) i).1)) := by rw [eσ_11_c _ (by first | omega | (simp only [vb] at *; omega))]; first | exact ht5009_σ_9 | assumption
                  have ht5004_σ_11 : σ_11 5004 = (nI (toN n)) := by rw [eσ_11_c _ (by first | omega | (simp only [vb] at *; omega))]; first | exact ht5004_σ_9 | assumption
                  have ht5005_σ_11 : σ_11 5005 = (nI (kr (txK tp (toN n) (tx9 tp (toN n) i).2.1))) := by rw [eσ_11_c _ (by first | omega | (simp only [vb] at *; omega))]; first | exact ht5005_σ_9 | assumption
                  have ht5006_σ_11 : σ_11 5006 = (nI (txS tp (toN n) (tx9 tp (toN n) i).2.1)) := by rw [eσ_11_c _ (by first | omega | (simp only [vb] at *; omega))]; first | exact ht5006_σ_9 | assumption
                  have ht5007_σ_11 : σ_11 5007 = (nI (txE tp (toN n) (tx9 tp (toN n) i).2.1)) := by rw [eσ_11_c _ (by first | omega | (simp only [vb] at *; omega))]; first | exact ht5007_σ_9 | assumption
                  have hcTP_σ_11 : TX 4100 σ_11 t tp := by exact TX.fr hcTP_σ_9 (fun a ha hb => eσ_11_c a (by first | omega | (simp only [vb] at *; omega)))
                  have hcFR_σ_11 : ∀ a, (1056 ≤ a ∧ a ≠ 4000 ∧ a ≠ 4002 ∧ a ≠ 4003 ∧ a ≠ 4004 ∧ (a < 4900 ∨ 6000 ≤ a)) → σ_11 a = σ a := by intro a ha; exact Eq.trans (b := σ_9 a) (eσ_11_c a (by first | omega | (simp only [vb] at *; omega))) (hcFR_σ_9 a ha)
                  have hcTX_σ_11 : TX 5600 σ_11 (toN n) tp := by exact TX.fr hcTX_σ_9 (fun a ha hb => eσ_11_c a (by first | omega | (simp only [vb] at *; omega)))
                  have hcVS_σ_11 : vw 528 σ_11 = μ := by rw [vw_fr (fun j _ _ => eσ_11_c _ (by omega))]; exact hcVS_σ_9
                  have hcLS_σ_11 : LR 528 σ_11 nt g := by exact LR.fr hcLS_σ_9 (fun a ha => eσ_11_c a (by first | omega | (simp only [vb] at *; omega)))
                  have hcVL_σ_11 : VL σ_11 tp (toN n) (tx9 tp (toN n) i).2.1 := by exact VL.fr hcVL_σ_9 (eσ_11_c _ (by first | omega | (simp only [vb] at *; omega)))
                  have hcLR_σ_11 : LR 0 σ_11 nt g := eσ_11_b
                  obtain ⟨μ_12, eμ_12⟩ : ∃ μ_12 : Nat → Int32, μ_12 = μ := ⟨_, rfl⟩
                  have hvσ_11 : vw 0 σ_11 = μ_12 := by rw [eμ_12]; exact eσ_11_a
                  refine g_aload_n h dX12_load_133 0 rfl ?_
                  refine g_bipush h dX12_load_134 (by decide) ?_
                  refine g_cvi (rest := []) h (r_refuse hW (nI 9) ) lX12_refuse mX12_272 (Nat.lt_of_lt_of_le (by decide) (Nat.le_refl _)) (by decide) sc_0 rfl rfl rfl rfl dX12_load_136 (fun σ_13 eσ_13 => ?_)
                  have eσ_13_a : σ_13 = upd σ_11 4000 (nI 9) := eσ_13
                  have ht4002_σ_13 : σ_13 4002 = (nI 0) := by rw [eσ_13_a, upd_ne (by first | omega | (simp only [vb] at *; omega))]; first | exact ht4002_σ_11 | assumption
                  have ht4003_σ_13 : σ_13 4003 = (nI ((tx9 tp (toN n) i).1)) := by rw [eσ_13_a, upd_ne (by first | omega | (simp only [vb] at *; omega))]; first | exact ht4003_σ_11 | assumption
                  have ht4004_σ_13 : σ_13 4004 = (if (tx9 tp (toN n) i).1 = 0 then -1 else nI (txS tp (toN n) (tx9 tp (toN n) i).2.1)) := by rw [eσ_13_a, upd_ne (by first | omega | (simp only [vb] at *; omega))]; first | exact ht4004_σ_11 | assumption
                  have ht5009_σ_13 : σ_13 5009 = (nI ((tx9 tp (toN n) i).1)) := by rw [eσ_13_a, upd_ne (by first | omega | (simp only [vb] at *; omega))]; first | exact ht5009_σ_11 | assumption
                  have ht5004_σ_13 : σ_13 5004 = (nI (toN n)) := by rw [eσ_13_a, upd_ne (by first | omega | (simp only [vb] at *; omega))]; first | exact ht5004_σ_11 | assumption
                  have ht5005_σ_13 : σ_13 5005 = (nI (kr (txK tp (toN n) (tx9 tp (toN n) i).2.1))) := by rw [eσ_13_a, upd_ne (by first | omega | (simp only [vb] at *; omega))]; first | exact ht5005_σ_11 | assumption
                  have ht5006_σ_13 : σ_13 5006 = (nI (txS tp (toN n) (tx9 tp (toN n) i).2.1)) := by rw [eσ_13_a, upd_ne (by first | omega | (simp only [vb] at *; omega))]; first | exact ht5006_σ_11 | assumption
                  have ht5007_σ_13 : σ_13 5007 = (nI (txE tp (toN n) (tx9 tp (toN n) i).2.1)) := by rw [eσ_13_a, upd_ne (by first | omega | (simp only [vb] at *; omega))]; first | exact ht5007_σ_11 | assumption
                  have ht4000_σ_13 : σ_13 4000 = (nI 9) := by rw [eσ_13_a]; exact upd_eq
                  have hcTP_σ_13 : TX 4100 σ_13 t tp := by rw [eσ_13_a]; exact TX.fr hcTP_σ_11 (fun a ha hb => upd_ne (by first | omega | (simp only [vb] at *; omega)))
                  have hcFR_σ_13 : ∀ a, (1056 ≤ a ∧ a ≠ 4000 ∧ a ≠ 4002 ∧ a ≠ 4003 ∧ a ≠ 4004 ∧ (a < 4900 ∨ 6000 ≤ a)) → σ_13 a = σ a := by intro a ha; exact Eq.trans (b := σ_11 a) (by rw [eσ_13_a, upd_ne (by first | omega | (simp only [vb] at *; omega))]) (hcFR_σ_11 a ha)
                  have hcTX_σ_13 : TX 5600 σ_13 (toN n) tp := by rw [eσ_13_a]; exact TX.fr hcTX_σ_11 (fun a ha hb => upd_ne (by first | omega | (simp only [vb] at *; omega)))
                  have hcVS_σ_13 : vw 528 σ_13 = μ := by rw [eσ_13_a, vw_out (by omega)]; exact hcVS_σ_11
                  have hcLS_σ_13 : LR 528 σ_13 nt g := by rw [eσ_13_a]; exact LR.fr hcLS_σ_11 (fun a ha => upd_ne (by first | omega | (simp only [vb] at *; omega)))
                  have hcVL_σ_13 : VL σ_13 tp (toN n) (tx9 tp (toN n) i).2.1 := by rw [eσ_13_a]; exact VL.fr hcVL_σ_11 (upd_ne (by first | omega | (simp only [vb] at *; omega)))
                  have hcLR_σ_13 : LR 0 σ_13 nt g := by rw [eσ_13_a]; exact LR.fr hcLR_σ_11 (fun a ha => upd_ne (by first | omega | (simp only [vb] at *; omega)))
                  have hvσ_13 : vw 0 σ_13 = μ_12 := by rw [eσ_13_a, vw_out (by omega)]; first | exact hvσ_11 | assumption
                  exact g_iret h hQ dX12_load_139 (congrArg (fun z => some (Value.int z)) (show (an (fo (rg n (nI 0) (nI t)) (if F.1 = 0 then 0 else 9)) (nI (nN F.2.2.1))) = (-1) by first | exact an_yes (by first | (rw [fo_l (by rw [hs1]; decide), hs1]; done) | exact (fo_r hs1).trans (if_neg hF9) | exact (fo_r hs1).trans (if_pos hF9) | fail) (by rw [hEnd]; exact (mi_0 (hA3 (by omega)).1).symm) | exact an_no (k := 9) (by first | (rw [fo_l (by rw [hs1]; decide), hs1]; done) | exact (fo_r hs1).trans (if_neg hF9) | exact (fo_r hs1).trans (if_pos hF9) | fail) (by decide) | fail)) (by exact ⟨(by first | exact pk_yes (by first | (rw [fo_l (by rw [hs1]; decide), hs1]; done) | exact (fo_r hs1).trans (if_neg hF9) | exact (fo_r hs1).trans (if_pos hF9) | fail) (by rw [hEnd]; exact hvσ_13) | exact pk_no (k := 9) (by first | (rw [fo_l (by rw [hs1]; decide), hs1]; done) | exact (fo_r hs1).trans (if_neg hF9) | exact (fo_r hs1).trans (if_pos hF9) | fail) (by decide) (by first | exact hvσ_13 | (rw [hvσ_13]; simp only [eμ_12]; done)) | fail), (by exact tk_eq (k := 9) (by first | (rw [fo_l (by rw [hs1]; decide), hs1]; done) | exact (fo_r hs1).trans (if_neg hF9) | exact (fo_r hs1).trans (if_pos hF9) | fail) ht4000_σ_13), (by first | (rw [if_pos hs1]; exact ht4002_σ_13) | (rw [if_neg (by rw [hs1]; decide)]; exact ht4002_σ_13) | fail), (by first | (rw [if_pos hs1, hEnd]; exact ht4003_σ_13) | (rw [if_neg (by rw [hs1]; decide)]; exact ht4003_σ_13) | fail), (by first | (rw [if_pos hs1, hEnd]; exact ht4004_σ_13) | (rw [if_neg (by rw [hs1]; decide)]; exact ht4004_σ_13) | fail), (by first | (rw [if_pos hs1]; exact TX.le hcTP_σ_13 (by omega)) | (rw [if_neg (by rw [hs1]; decide)]; exact hcTP_σ_13) | fail), (by first | (rw [if_neg (by rw [show fo (rg n (nI 0) (nI t)) (if F.1 = 0 then 0 else 9) = 9 from by first | (rw [fo_l (by rw [hs1]; decide), hs1]; done) | exact (fo_r hs1).trans (if_neg hF9) | exact (fo_r hs1).trans (if_pos hF9) | fail]; decide)]; exact hcLR_σ_13) | exact lr_0 hcLR_σ_13 (if_pos (by first | (rw [fo_l (by rw [hs1]; decide), hs1]; done) | exact (fo_r hs1).trans (if_neg hF9) | exact (fo_r hs1).trans (if_pos hF9) | fail)) | fail), (by exact hcFR_σ_13)⟩)
              ·
                refine g_aload_n h dX12_load_95 0 rfl ?_
                refine g_geti h dX12_load_96 gX12_196 sc_0 rfl ?_
                refine g_top (y := (nI (kr (txK tp (toN n) (tx9 tp (toN n) i).2.1)))) (by first | exact ht5005_τ | assumption) ?_
                refine g_ifN_eq h dX12_load_99 (by omega) (fun c99 => ?_) (fun c99 => ?_)
                ·
                  have hEnd : F = (tx9 tp (toN n) i) := hFe.trans (tx9_fin (by omega) (fun z => z.2 (kr_i.1.mp c99)))
                  refine g_aload_n h dX12_load_110 0 rfl ?_
                  refine g_aload_n h dX12_load_111 0 rfl ?_
                  refine g_geti h dX12_load_112 gX12_223 sc_0 rfl ?_
                  refine g_top (y := (nI ((tx9 tp (toN n) i).1))) (by first | exact ht5009_τ | assumption) ?_
                  refine g_puti h dX12_load_115 pX12_39 sc_0 rfl ?_
                  refine g_nm (fun σ_14 eσ_14 => ?_)
                  have eσ_14 : σ_14 = upd (τ) 4003 (nI ((tx9 tp (toN n) i).1)) := eσ_14
                  have ht4002_σ_14 : σ_14 4002 = (nI 0) := by rw [eσ_14, upd_ne (by first | omega | (simp only [vb] at *; omega))]; first | exact ht4002_τ | assumption
                  have ht4003_σ_14 : σ_14 4003 = (nI ((tx9 tp (toN n) i).1)) := by rw [eσ_14]; exact upd_eq
                  have ht4004_σ_14 : σ_14 4004 = (if (tx9 tp (toN n) i).1 = 0 then -1 else nI (txS tp (toN n) (tx9 tp (toN n) i).2.1)) := by rw [eσ_14, upd_ne (by first | omega | (simp only [vb] at *; omega))]; first | exact ht4004_τ | assumption
                  have ht5009_σ_14 : σ_14 5009 = (nI ((tx9 tp (toN n) i).1)) := by rw [eσ_14, upd_ne (by first | omega | (simp only [vb] at *; omega))]; first | exact ht5009_τ | assumption
                  have ht5004_σ_14 : σ_14 5004 = (nI (toN n)) := by rw [eσ_14, upd_ne (by first | omega | (simp only [vb] at *; omega))]; first | exact ht5004_τ | assumption
                  have ht5005_σ_14 : σ_14 5005 = (nI (kr (txK tp (toN n) (tx9 tp (toN n) i).2.1))) := by rw [eσ_14, upd_ne (by first | omega | (simp only [vb] at *; omega))]; first | exact ht5005_τ | assumption
                  have ht5006_σ_14 : σ_14 5006 = (nI (txS tp (toN n) (tx9 tp (toN n) i).2.1)) := by rw [eσ_14, upd_ne (by first | omega | (simp only [vb] at *; omega))]; first | exact ht5006_τ | assumption
                  have ht5007_σ_14 : σ_14 5007 = (nI (txE tp (toN n) (tx9 tp (toN n) i).2.1)) := by rw [eσ_14, upd_ne (by first | omega | (simp only [vb] at *; omega))]; first | exact ht5007_τ | assumption
                  have hcTP_σ_14 : TX 4100 σ_14 t tp := by rw [eσ_14]; exact TX.fr hcTP_τ (fun a ha hb => upd_ne (by first | omega | (simp only [vb] at *; omega)))
                  have hcFR_σ_14 : ∀ a, (1056 ≤ a ∧ a ≠ 4000 ∧ a ≠ 4002 ∧ a ≠ 4003 ∧ a ≠ 4004 ∧ (a < 4900 ∨ 6000 ≤ a)) → σ_14 a = σ a := by intro a ha; exact Eq.trans (b := (τ) a) (by rw [eσ_14, upd_ne (by first | omega | (simp only [vb] at *; omega))]) (hcFR_τ a ha)
                  have hcTX_σ_14 : TX 5600 σ_14 (toN n) tp := by rw [eσ_14]; exact TX.fr hcTX_τ (fun a ha hb => upd_ne (by first | omega | (simp only [vb] at *; omega)))
                  have hcVS_σ_14 : vw 528 σ_14 = μ := by rw [eσ_14, vw_out (by omega)]; exact hcVS_τ
                  have hcLS_σ_14 : LR 528 σ_14 nt g := by rw [eσ_14]; exact LR.fr hcLS_τ (fun a ha => upd_ne (by first | omega | (simp only [vb] at *; omega)))
                  have hcLR_σ_14 : LR 0 σ_14 0 g := by rw [eσ_14]; exact LR.fr hcLR_τ (fun a ha => upd_ne (by first | omega | (simp only [vb] at *; omega)))
                  have hcVL_σ_14 : VL σ_14 tp (toN n) (tx9 tp (toN n) i).2.1 := by rw [eσ_14]; exact VL.fr hcVL_τ (upd_ne (by first | omega | (simp only [vb] at *; omega)))
                  have hvσ_14 : vw 0 σ_14 = (tx9 tp (toN n) i).2.2.1 := by rw [eσ_14, vw_out (by omega)]; first | exact hvτ | assumption
                  refine g_aload_n h dX12_load_118 0 rfl ?_
                  refine g_geti h dX12_load_119 gX12_223 sc_0 rfl ?_
                  refine g_top (y := (nI ((tx9 tp (toN n) i).1))) (by first | exact ht5009_σ_14 | assumption) ?_
                  refine g_ifN_le h dX12_load_122 (by omega) (fun c122 => ?_) (fun c122 => ?_)
                  ·
                    have hF9 : F.1 = 0 := by rw [hEnd]; omega
                    refine g_aload_n h dX12_load_140 0 rfl ?_
                    refine g_aload_n h dX12_load_141 0 rfl ?_
                    refine g_iconst h dX12_load_142 (by decide) ?_
                    refine g_cvpi (rest := [.ref (w.1 0)]) h (r_of hW 0 ((tx9 tp (toN n) i).2.2.1) (by assumption) (by omega)) lX12_of mX12_61 (Nat.lt_of_lt_of_le (by decide) (Nat.le_refl _)) (by decide) sc_0 rfl rfl rfl rfl dX12_load_143 ?_
                    refine g_cvi (rest := []) h (r_gives hW (((tx9 tp (toN n) i).2.2.1) 0) ) lX12_gives mX12_281 (Nat.lt_of_lt_of_le (by decide) (Nat.le_refl _)) (by decide) sc_0 rfl rfl rfl rfl dX12_load_146 (fun σ_15 eσ_15 => ?_)
                    have eσ_15_a : σ_15 = upd σ_14 4000 (nI 0) := eσ_15
                    have ht4002_σ_15 : σ_15 4002 = (nI 0) := by rw [eσ_15_a, upd_ne (by first | omega | (simp only [vb] at *; omega))]; first | exact ht4002_σ_14 | assumption
                    have ht4003_σ_15 : σ_15 4003 = (nI ((tx9 tp (toN n) i).1)) := by rw [eσ_15_a, upd_ne (by first | omega | (simp only [vb] at *; omega))]; first | exact ht4003_σ_14 | assumption
                    have ht4004_σ_15 : σ_15 4004 = (if (tx9 tp (toN n) i).1 = 0 then -1 else nI (txS tp (toN n) (tx9 tp (toN n) i).2.1)) := by rw [eσ_15_a, upd_ne (by first | omega | (simp only [vb] at *; omega))]; first | exact ht4004_σ_14 | assumption
                    have ht5009_σ_15 : σ_15 5009 = (nI ((tx9 tp (toN n) i).1)) := by rw [eσ_15_a, upd_ne (by first | omega | (simp only [vb] at *; omega))]; first | exact ht5009_σ_14 | assumption
                    have ht5004_σ_15 : σ_15 5004 = (nI (toN n)) := by rw [eσ_15_a, upd_ne (by first | omega | (simp only [vb] at *; omega))]; first | exact ht5004_σ_14 | assumption
                    have ht5005_σ_15 : σ_15 5005 = (nI (kr (txK tp (toN n) (tx9 tp (toN n) i).2.1))) := by rw [eσ_15_a, upd_ne (by first | omega | (simp only [vb] at *; omega))]; first | exact ht5005_σ_14 | assumption
                    have ht5006_σ_15 : σ_15 5006 = (nI (txS tp (toN n) (tx9 tp (toN n) i).2.1)) := by rw [eσ_15_a, upd_ne (by first | omega | (simp only [vb] at *; omega))]; first | exact ht5006_σ_14 | assumption
                    have ht5007_σ_15 : σ_15 5007 = (nI (txE tp (toN n) (tx9 tp (toN n) i).2.1)) := by rw [eσ_15_a, upd_ne (by first | omega | (simp only [vb] at *; omega))]; first | exact ht5007_σ_14 | assumption
                    have ht4000_σ_15 : σ_15 4000 = (nI 0) := by rw [eσ_15_a]; exact upd_eq
                    have hcTP_σ_15 : TX 4100 σ_15 t tp := by rw [eσ_15_a]; exact TX.fr hcTP_σ_14 (fun a ha hb => upd_ne (by first | omega | (simp only [vb] at *; omega)))
                    have hcFR_σ_15 : ∀ a, (1056 ≤ a ∧ a ≠ 4000 ∧ a ≠ 4002 ∧ a ≠ 4003 ∧ a ≠ 4004 ∧ (a < 4900 ∨ 6000 ≤ a)) → σ_15 a = σ a := by intro a ha; exact Eq.trans (b := σ_14 a) (by rw [eσ_15_a, upd_ne (by first | omega | (simp only [vb] at *; omega))]) (hcFR_σ_14 a ha)
                    have hcTX_σ_15 : TX 5600 σ_15 (toN n) tp := by rw [eσ_15_a]; exact TX.fr hcTX_σ_14 (fun a ha hb => upd_ne (by first | omega | (simp only [vb] at *; omega)))
                    have hcVS_σ_15 : vw 528 σ_15 = μ := by rw [eσ_15_a, vw_out (by omega)]; exact hcVS_σ_14
                    have hcLS_σ_15 : LR 528 σ_15 nt g := by rw [eσ_15_a]; exact LR.fr hcLS_σ_14 (fun a ha => upd_ne (by first | omega | (simp only [vb] at *; omega)))
                    have hcLR_σ_15 : LR 0 σ_15 0 g := by rw [eσ_15_a]; exact LR.fr hcLR_σ_14 (fun a ha => upd_ne (by first | omega | (simp only [vb] at *; omega)))
                    have hcVL_σ_15 : VL σ_15 tp (toN n) (tx9 tp (toN n) i).2.1 := by rw [eσ_15_a]; exact VL.fr hcVL_σ_14 (upd_ne (by first | omega | (simp only [vb] at *; omega)))
                    have hvσ_15 : vw 0 σ_15 = (tx9 tp (toN n) i).2.2.1 := by rw [eσ_15_a, vw_out (by omega)]; first | exact hvσ_14 | assumption
                    exact g_iret h hQ dX12_load_149 (congrArg (fun z => some (Value.int z)) (show (an (fo (rg n (nI 0) (nI t)) (if F.1 = 0 then 0 else 9)) (nI (nN F.2.2.1))) = (((tx9 tp (toN n) i).2.2.1) 0) by first | exact an_yes (by first | (rw [fo_l (by rw [hs1]; decide), hs1]; done) | exact (fo_r hs1).trans (if_neg hF9) | exact (fo_r hs1).trans (if_pos hF9) | fail) (by rw [hEnd]; exact (mi_0 (hA3 (by omega)).1).symm) | exact an_no (k := 0) (by first | (rw [fo_l (by rw [hs1]; decide), hs1]; done) | exact (fo_r hs1).trans (if_neg hF9) | exact (fo_r hs1).trans (if_pos hF9) | fail) (by decide) | fail)) (by exact ⟨(by first | exact pk_yes (by first | (rw [fo_l (by rw [hs1]; decide), hs1]; done) | exact (fo_r hs1).trans (if_neg hF9) | exact (fo_r hs1).trans (if_pos hF9) | fail) (by rw [hEnd]; exact hvσ_15) | exact pk_no (k := 0) (by first | (rw [fo_l (by rw [hs1]; decide), hs1]; done) | exact (fo_r hs1).trans (if_neg hF9) | exact (fo_r hs1).trans (if_pos hF9) | fail) (by decide) (by first | exact hvσ_15 | (rw [hvσ_15]; simp only [Nat.add_zero]; done)) | fail), (by exact tk_eq (k := 0) (by first | (rw [fo_l (by rw [hs1]; decide), hs1]; done) | exact (fo_r hs1).trans (if_neg hF9) | exact (fo_r hs1).trans (if_pos hF9) | fail) ht4000_σ_15), (by first | (rw [if_pos hs1]; exact ht4002_σ_15) | (rw [if_neg (by rw [hs1]; decide)]; exact ht4002_σ_15) | fail), (by first | (rw [if_pos hs1, hEnd]; exact ht4003_σ_15) | (rw [if_neg (by rw [hs1]; decide)]; exact ht4003_σ_15) | fail), (by first | (rw [if_pos hs1, hEnd]; exact ht4004_σ_15) | (rw [if_neg (by rw [hs1]; decide)]; exact ht4004_σ_15) | fail), (by first | (rw [if_pos hs1]; exact TX.le hcTP_σ_15 (by omega)) | (rw [if_neg (by rw [hs1]; decide)]; exact hcTP_σ_15) | fail), (by first | (rw [if_neg (by rw [show fo (rg n (nI 0) (nI t)) (if F.1 = 0 then 0 else 9) = 0 from by first | (rw [fo_l (by rw [hs1]; decide), hs1]; done) | exact (fo_r hs1).trans (if_neg hF9) | exact (fo_r hs1).trans (if_pos hF9) | fail]; decide)]; exact hcLR_σ_15) | exact lr_0 hcLR_σ_15 (if_pos (by first | (rw [fo_l (by rw [hs1]; decide), hs1]; done) | exact (fo_r hs1).trans (if_neg hF9) | exact (fo_r hs1).trans (if_pos hF9) | fail)) | fail), (by exact hcFR_σ_15)⟩)
                  ·
                    have hF9 : ¬ F.1 = 0 := by rw [hEnd]; omega
                    refine g_aload_n h dX12_load_125 0 rfl ?_
                    refine g_sipush h dX12_load_126 (by decide) ?_
                    refine g_iconst h dX12_load_129 (by decide) ?_
                    refine g_cvv (rest := []) h (r_rest hW nt g μ (by exact hcVS_σ_14) (by exact hcLS_σ_14)) lX12_copies mX12_275 (Nat.lt_of_lt_of_le (by decide) (Nat.le_refl _)) (by decide) sc_0 rfl rfl rfl rfl dX12_load_130 (fun σ_16 eσ_16 => ?_)
                    obtain ⟨eσ_16_a, eσ_16_b, eσ_16_c⟩ := eσ_16
                    have eσ_16_a : vw 0 σ_16 = μ := eσ_16_a
                    have eσ_16_b : LR 0 σ_16 nt g := eσ_16_b
                    have eσ_16_c : ∀ a, (528 ≤ a) → σ_16 a = σ_14 a := eσ_16_c
                    have ht4002_σ_16 : σ_16 4002 = (nI 0) := by rw [eσ_16_c _ (by first | omega | (simp only [vb] at *; omega))]; first | exact ht4002_σ_14 | assumption
                    have ht4003_σ_16 : σ_16 4003 = (nI ((tx9 tp (toN n) i).1)) := by rw [eσ_16_c _ (by first | omega | (simp only [vb] at *; omega))]; first | exact ht4003_σ_14 | assumption
                    have ht4004_σ_16 : σ_16 4004 = (if (tx9 tp (toN n) i).1 = 0 then -1 else nI (txS tp (toN n) (tx9 tp (toN n) i).2.1)) := by rw [eσ_16_c _ (by first | omega | (simp only [vb] at *; omega))]; first | exact ht4004_σ_14 | assumption
                    have ht5009_σ_16 : σ_16 5009 = (nI ((tx9 tp (toN n) i).1)) := by rw [eσ_16_c _ (by first | omega | (simp only [vb] at *; omega))]; first | exact ht5009_σ_14 | assumption
                    have ht5004_σ_16 : σ_16 5004 = (nI (toN n)) := by rw [eσ_16_c _ (by first | omega | (simp only [vb] at *; omega))]; first | exact ht5004_σ_14 | assumption
                    have ht5005_σ_16 : σ_16 5005 = (nI (kr (txK tp (toN n) (tx9 tp (toN n) i).2.1))) := by rw [eσ_16_c _ (by first | omega | (simp only [vb] at *; omega))]; first | exact ht5005_σ_14 | assumption
                    have ht5006_σ_16 : σ_16 5006 = (nI (txS tp (toN n) (tx9 tp (toN n) i).2.1)) := by rw [eσ_16_c _ (by first | omega | (simp only [vb] at *; omega))]; first | exact ht5006_σ_14 | assumption
                    have ht5007_σ_16 : σ_16 5007 = (nI (txE tp (toN n) (tx9 tp (toN n) i).2.1)) := by rw [eσ_16_c _ (by first | omega | (simp only [vb] at *; omega))]; first | exact ht5007_σ_14 | assumption
                    have hcTP_σ_16 : TX 4100 σ_16 t tp := by exact TX.fr hcTP_σ_14 (fun a ha hb => eσ_16_c a (by first | omega | (simp only [vb] at *; omega)))
                    have hcFR_σ_16 : ∀ a, (1056 ≤ a ∧ a ≠ 4000 ∧ a ≠ 4002 ∧ a ≠ 4003 ∧ a ≠ 4004 ∧ (a < 4900 ∨ 6000 ≤ a)) → σ_16 a = σ a := by intro a ha; exact Eq.trans (b := σ_14 a) (eσ_16_c a (by first | omega | (simp only [vb] at *; omega))) (hcFR_σ_14 a ha)
                    have hcTX_σ_16 : TX 5600 σ_16 (toN n) tp := by exact TX.fr hcTX_σ_14 (fun a ha hb => eσ_16_c a (by first | omega | (simp only [vb] at *; omega)))
                    have hcVS_σ_16 : vw 528 σ_16 = μ := by rw [vw_fr (fun j _ _ => eσ_16_c _ (by omega))]; exact hcVS_σ_14
                    have hcLS_σ_16 : LR 528 σ_16 nt g := by exact LR.fr hcLS_σ_14 (fun a ha => eσ_16_c a (by first | omega | (simp only [vb] at *; omega)))
                    have hcVL_σ_16 : VL σ_16 tp (toN n) (tx9 tp (toN n) i).2.1 := by exact VL.fr hcVL_σ_14 (eσ_16_c _ (by first | omega | (simp only [vb] at *; omega)))
                    have hcLR_σ_16 : LR 0 σ_16 nt g := eσ_16_b
                    obtain ⟨μ_17, eμ_17⟩ : ∃ μ_17 : Nat → Int32, μ_17 = μ := ⟨_, rfl⟩
                    have hvσ_16 : vw 0 σ_16 = μ_17 := by rw [eμ_17]; exact eσ_16_a
                    refine g_aload_n h dX12_load_133 0 rfl ?_
                    refine g_bipush h dX12_load_134 (by decide) ?_
                    refine g_cvi (rest := []) h (r_refuse hW (nI 9) ) lX12_refuse mX12_272 (Nat.lt_of_lt_of_le (by decide) (Nat.le_refl _)) (by decide) sc_0 rfl rfl rfl rfl dX12_load_136 (fun σ_18 eσ_18 => ?_)
                    have eσ_18_a : σ_18 = upd σ_16 4000 (nI 9) := eσ_18
                    have ht4002_σ_18 : σ_18 4002 = (nI 0) := by rw [eσ_18_a, upd_ne (by first | omega | (simp only [vb] at *; omega))]; first | exact ht4002_σ_16 | assumption
                    have ht4003_σ_18 : σ_18 4003 = (nI ((tx9 tp (toN n) i).1)) := by rw [eσ_18_a, upd_ne (by first | omega | (simp only [vb] at *; omega))]; first | exact ht4003_σ_16 | assumption
                    have ht4004_σ_18 : σ_18 4004 = (if (tx9 tp (toN n) i).1 = 0 then -1 else nI (txS tp (toN n) (tx9 tp (toN n) i).2.1)) := by rw [eσ_18_a, upd_ne (by first | omega | (simp only [vb] at *; omega))]; first | exact ht4004_σ_16 | assumption
                    have ht5009_σ_18 : σ_18 5009 = (nI ((tx9 tp (toN n) i).1)) := by rw [eσ_18_a, upd_ne (by first | omega | (simp only [vb] at *; omega))]; first | exact ht5009_σ_16 | assumption
                    have ht5004_σ_18 : σ_18 5004 = (nI (toN n)) := by rw [eσ_18_a, upd_ne (by first | omega | (simp only [vb] at *; omega))]; first | exact ht5004_σ_16 | assumption
                    have ht5005_σ_18 : σ_18 5005 = (nI (kr (txK tp (toN n) (tx9 tp (toN n) i).2.1))) := by rw [eσ_18_a, upd_ne (by first | omega | (simp only [vb] at *; omega))]; first | exact ht5005_σ_16 | assumption
                    have ht5006_σ_18 : σ_18 5006 = (nI (txS tp (toN n) (tx9 tp (toN n) i).2.1)) := by rw [eσ_18_a, upd_ne (by first | omega | (simp only [vb] at *; omega))]; first | exact ht5006_σ_16 | assumption
                    have ht5007_σ_18 : σ_18 5007 = (nI (txE tp (toN n) (tx9 tp (toN n) i).2.1)) := by rw [eσ_18_a, upd_ne (by first | omega | (simp only [vb] at *; omega))]; first | exact ht5007_σ_16 | assumption
                    have ht4000_σ_18 : σ_18 4000 = (nI 9) := by rw [eσ_18_a]; exact upd_eq
                    have hcTP_σ_18 : TX 4100 σ_18 t tp := by rw [eσ_18_a]; exact TX.fr hcTP_σ_16 (fun a ha hb => upd_ne (by first | omega | (simp only [vb] at *; omega)))
                    have hcFR_σ_18 : ∀ a, (1056 ≤ a ∧ a ≠ 4000 ∧ a ≠ 4002 ∧ a ≠ 4003 ∧ a ≠ 4004 ∧ (a < 4900 ∨ 6000 ≤ a)) → σ_18 a = σ a := by intro a ha; exact Eq.trans (b := σ_16 a) (by rw [eσ_18_a, upd_ne (by first | omega | (simp only [vb] at *; omega))]) (hcFR_σ_16 a ha)
                    have hcTX_σ_18 : TX 5600 σ_18 (toN n) tp := by rw [eσ_18_a]; exact TX.fr hcTX_σ_16 (fun a ha hb => upd_ne (by first | omega | (simp only [vb] at *; omega)))
                    have hcVS_σ_18 : vw 528 σ_18 = μ := by rw [eσ_18_a, vw_out (by omega)]; exact hcVS_σ_16
                    have hcLS_σ_18 : LR 528 σ_18 nt g := by rw [eσ_18_a]; exact LR.fr hcLS_σ_16 (fun a ha => upd_ne (by first | omega | (simp only [vb] at *; omega)))
                    have hcVL_σ_18 : VL σ_18 tp (toN n) (tx9 tp (toN n) i).2.1 := by rw [eσ_18_a]; exact VL.fr hcVL_σ_16 (upd_ne (by first | omega | (simp only [vb] at *; omega)))
                    have hcLR_σ_18 : LR 0 σ_18 nt g := by rw [eσ_18_a]; exact LR.fr hcLR_σ_16 (fun a ha => upd_ne (by first | omega | (simp only [vb] at *; omega)))
                    have hvσ_18 : vw 0 σ_18 = μ_17 := by rw [eσ_18_a, vw_out (by omega)]; first | exact hvσ_16 | assumption
                    exact g_iret h hQ dX12_load_139 (congrArg (fun z => some (Value.int z)) (show (an (fo (rg n (nI 0) (nI t)) (if F.1 = 0 then 0 else 9)) (nI (nN F.2.2.1))) = (-1) by first | exact an_yes (by first | (rw [fo_l (by rw [hs1]; decide), hs1]; done) | exact (fo_r hs1).trans (if_neg hF9) | exact (fo_r hs1).trans (if_pos hF9) | fail) (by rw [hEnd]; exact (mi_0 (hA3 (by omega)).1).symm) | exact an_no (k := 9) (by first | (rw [fo_l (by rw [hs1]; decide), hs1]; done) | exact (fo_r hs1).trans (if_neg hF9) | exact (fo_r hs1).trans (if_pos hF9) | fail) (by decide) | fail)) (by exact ⟨(by first | exact pk_yes (by first | (rw [fo_l (by rw [hs1]; decide), hs1]; done) | exact (fo_r hs1).trans (if_neg hF9) | exact (fo_r hs1).trans (if_pos hF9) | fail) (by rw [hEnd]; exact hvσ_18) | exact pk_no (k := 9) (by first | (rw [fo_l (by rw [hs1]; decide), hs1]; done) | exact (fo_r hs1).trans (if_neg hF9) | exact (fo_r hs1).trans (if_pos hF9) | fail) (by decide) (by first | exact hvσ_18 | (rw [hvσ_18]; simp only [eμ_17]; done)) | fail), (by exact tk_eq (k := 9) (by first | (rw [fo_l (by rw [hs1]; decide), hs1]; done) | exact (fo_r hs1).trans (if_neg hF9) | exact (fo_r hs1).trans (if_pos hF9) | fail) ht4000_σ_18), (by first | (rw [if_pos hs1]; exact ht4002_σ_18) | (rw [if_neg (by rw [hs1]; decide)]; exact ht4002_σ_18) | fail), (by first | (rw [if_pos hs1, hEnd]; exact ht4003_σ_18) | (rw [if_neg (by rw [hs1]; decide)]; exact ht4003_σ_18) | fail), (by first | (rw [if_pos hs1, hEnd]; exact ht4004_σ_18) | (rw [if_neg (by rw [hs1]; decide)]; exact ht4004_σ_18) | fail), (by first | (rw [if_pos hs1]; exact TX.le hcTP_σ_18 (by omega)) | (rw [if_neg (by rw [hs1]; decide)]; exact hcTP_σ_18) | fail), (by first | (rw [if_neg (by rw [show fo (rg n (nI 0) (nI t)) (if F.1 = 0 then 0 else 9) = 9 from by first | (rw [fo_l (by rw [hs1]; decide), hs1]; done) | exact (fo_r hs1).trans (if_neg hF9) | exact (fo_r hs1).trans (if_pos hF9) | fail]; decide)]; exact hcLR_σ_18) | exact lr_0 hcLR_σ_18 (if_pos (by first | (rw [fo_l (by rw [hs1]; decide), hs1]; done) | exact (fo_r hs1).trans (if_neg hF9) | exact (fo_r hs1).trans (if_pos hF9) | fail)) | fail), (by exact hcFR_σ_18)⟩)
                ·
                  have hg9 : (tx9 tp (toN n) i).1 = 0 := of_decide_eq_true (hgd.symm.trans c92)
                  have hrun : (tx9 tp (toN n) i).1 = 0 ∧ txK tp (toN n) (tx9 tp (toN n) i).2.1 ≠ 0 := ⟨hg9, fun z => c99 (kr_i.1.mpr z)⟩
                  have hN : (tx9 tp (toN n) (i + 1)) = ln9 tp (toN n) (0, (tx9 tp (toN n) i).2.1, (tx9 tp (toN n) i).2.2.1, (tx9 tp (toN n) i).2.2.2.1, (tx9 tp (toN n) i).2.2.2.2) := by rw [pk9 hg9]; exact tx9_go hrun
                  have hi9 := tx9_400 (x := tp) (L := toN n) (n := i) (by omega) hrun
                  have ht5009_τ : τ 5009 = (nI 0) := by rw [ht5009_τ, hg9]
                  have ht4004_τ : τ 4004 = (-1) := by rw [ht4004_τ, if_pos hg9]
                  have hcTD_τ : TD τ (tx9 tp (toN n) i).2.2.2.1 (tx9 tp (toN n) i).2.2.2.2 := hTD hg9
                  refine g_aload_n h dX12_load_102 0 rfl ?_
                  refine g_cvi (rest := []) h (r_aLine hW ((tx9 tp (toN n) i).2.2.2.1) ((tx9 tp (toN n) i).2.2.2.2) ((tx9 tp (toN n) i).2.1) (toN n) tp (-1) ((tx9 tp (toN n) i).2.2.1) (by exact hA2) (by first | omega | assumption | fail) (by first | exact hvτ | assumption | fail) (by exact (hA3 hg9).1) (by first | exact ht5004_τ | assumption | fail) (by first | exact ht5005_τ | assumption | fail) (by first | exact ht5006_τ | assumption | fail) (by first | exact ht5007_τ | assumption | fail) (by first | exact ht5009_τ | assumption | fail) (by first | exact ht4004_τ | assumption | fail) (by first | exact hcTX_τ | assumption | fail) (by first | exact hcVL_τ | assumption | fail) (by first | exact hcTD_τ | assumption | fail)) lX12_aLine mX12_278 (Nat.lt_of_lt_of_le (by decide) (Nat.le_refl _)) (by decide) sc_0 rfl rfl rfl rfl dX12_load_103 (fun σl eσl => ?_)
                  obtain ⟨eσl_a, eσl_b, eσl_c, eσl_d, eσl_e, eσl_f, eσl_g, eσl_h, eσl_i, eσl_j, eσl_k⟩ := eσl
                  have eσl_a : vw 0 σl = (ln9 tp (toN n) (0, ((tx9 tp (toN n) i).2.1), ((tx9 tp (toN n) i).2.2.1), ((tx9 tp (toN n) i).2.2.2.1), ((tx9 tp (toN n) i).2.2.2.2))).2.2.1 := eσl_a
                  have eσl_b : σl 5004 = (nI (toN n)) := eσl_b
                  have eσl_c : σl 5005 = (nI (kr (txK tp (toN n) (ln9 tp (toN n) (0, ((tx9 tp (toN n) i).2.1), ((tx9 tp (toN n) i).2.2.1), ((tx9 tp (toN n) i).2.2.2.1), ((tx9 tp (toN n) i).2.2.2.2))).2.1))) := eσl_c
                  have eσl_d : σl 5006 = (nI (txS tp (toN n) (ln9 tp (toN n) (0, ((tx9 tp (toN n) i).2.1), ((tx9 tp (toN n) i).2.2.1), ((tx9 tp (toN n) i).2.2.2.1), ((tx9 tp (toN n) i).2.2.2.2))).2.1)) := eσl_d
                  have eσl_e : σl 5007 = (nI (txE tp (toN n) (ln9 tp (toN n) (0, ((tx9 tp (toN n) i).2.1), ((tx9 tp (toN n) i).2.2.1), ((tx9 tp (toN n) i).2.2.2.1), ((tx9 tp (toN n) i).2.2.2.2))).2.1)) := eσl_e
                  have eσl_f : σl 5009 = (nI ((ln9 tp (toN n) (0, ((tx9 tp (toN n) i).2.1), ((tx9 tp (toN n) i).2.2.1), ((tx9 tp (toN n) i).2.2.2.1), ((tx9 tp (toN n) i).2.2.2.2))).1)) := eσl_f
                  have eσl_g : σl 4004 = (if (ln9 tp (toN n) (0, ((tx9 tp (toN n) i).2.1), ((tx9 tp (toN n) i).2.2.1), ((tx9 tp (toN n) i).2.2.2.1), ((tx9 tp (toN n) i).2.2.2.2))).1 = 0 then (-1) else nI (txS tp (toN n) (ln9 tp (toN n) (0, ((tx9 tp (toN n) i).2.1), ((tx9 tp (toN n) i).2.2.1), ((tx9 tp (toN n) i).2.2.2.1), ((tx9 tp (toN n) i).2.2.2.2))).2.1)) := eσl_g
                  have eσl_h : TX 5600 σl (toN n) tp := eσl_h
                  have eσl_i : VL σl tp (toN n) (ln9 tp (toN n) (0, ((tx9 tp (toN n) i).2.1), ((tx9 tp (toN n) i).2.2.1), ((tx9 tp (toN n) i).2.2.2.1), ((tx9 tp (toN n) i).2.2.2.2))).2.1 := eσl_i
                  have eσl_j : (ln9 tp (toN n) (0, ((tx9 tp (toN n) i).2.1), ((tx9 tp (toN n) i).2.2.1), ((tx9 tp (toN n) i).2.2.2.1), ((tx9 tp (toN n) i).2.2.2.2))).1 = 0 → TD σl (ln9 tp (toN n) (0, ((tx9 tp (toN n) i).2.1), ((tx9 tp (toN n) i).2.2.1), ((tx9 tp (toN n) i).2.2.2.1), ((tx9 tp (toN n) i).2.2.2.2))).2.2.2.1 (ln9 tp (toN n) (0, ((tx9 tp (toN n) i).2.1), ((tx9 tp (toN n) i).2.2.1), ((tx9 tp (toN n) i).2.2.2.1), ((tx9 tp (toN n) i).2.2.2.2))).2.2.2.2 := eσl_j
                  have eσl_k : ∀ a, (464 ≤ a ∧ a ≠ 5010 ∧ a ≠ 5009 ∧ a ≠ 4004 ∧ (a < 5005 ∨ 5008 < a) ∨ a = 10) → σl a = (τ) a := eσl_k
                  have ht4002_σl : σl 4002 = (nI 0) := by rw [eσl_k _ (by first | omega | (simp only [vb] at *; omega))]; first | exact ht4002_τ | assumption
                  have ht4003_σl : σl 4003 = fk := by rw [eσl_k _ (by first | omega | (simp only [vb] at *; omega))]; first | exact ht4003_τ | assumption
                  have ht5004_σl : σl 5004 = (nI (toN n)) := eσl_b
                  have ht5005_σl : σl 5005 = (nI (kr (txK tp (toN n) (ln9 tp (toN n) (0, ((tx9 tp (toN n) i).2.1), ((tx9 tp (toN n) i).2.2.1), ((tx9 tp (toN n) i).2.2.2.1), ((tx9 tp (toN n) i).2.2.2.2))).2.1))) := eσl_c
                  have ht5006_σl : σl 5006 = (nI (txS tp (toN n) (ln9 tp (toN n) (0, ((tx9 tp (toN n) i).2.1), ((tx9 tp (toN n) i).2.2.1), ((tx9 tp (toN n) i).2.2.2.1), ((tx9 tp (toN n) i).2.2.2.2))).2.1)) := eσl_d
                  have ht5007_σl : σl 5007 = (nI (txE tp (toN n) (ln9 tp (toN n) (0, ((tx9 tp (toN n) i).2.1), ((tx9 tp (toN n) i).2.2.1), ((tx9 tp (toN n) i).2.2.2.1), ((tx9 tp (toN n) i).2.2.2.2))).2.1)) := eσl_e
                  have ht5009_σl : σl 5009 = (nI ((ln9 tp (toN n) (0, ((tx9 tp (toN n) i).2.1), ((tx9 tp (toN n) i).2.2.1), ((tx9 tp (toN n) i).2.2.2.1), ((tx9 tp (toN n) i).2.2.2.2))).1)) := eσl_f
                  have ht4004_σl : σl 4004 = (if (ln9 tp (toN n) (0, ((tx9 tp (toN n) i).2.1), ((tx9 tp (toN n) i).2.2.1), ((tx9 tp (toN n) i).2.2.2.1), ((tx9 tp (toN n) i).2.2.2.2))).1 = 0 then (-1) else nI (txS tp (toN n) (ln9 tp (toN n) (0, ((tx9 tp (toN n) i).2.1), ((tx9 tp (toN n) i).2.2.1), ((tx9 tp (toN n) i).2.2.2.1), ((tx9 tp (toN n) i).2.2.2.2))).2.1)) := eσl_g
                  have hcTP_σl : TX 4100 σl t tp := by exact TX.fr hcTP_τ (fun a ha hb => eσl_k a (by first | omega | (simp only [vb] at *; omega)))
                  have hcFR_σl : ∀ a, (1056 ≤ a ∧ a ≠ 4000 ∧ a ≠ 4002 ∧ a ≠ 4003 ∧ a ≠ 4004 ∧ (a < 4900 ∨ 6000 ≤ a)) → σl a = σ a := by intro a ha; exact Eq.trans (b := (τ) a) (eσl_k a (by first | omega | (simp only [vb] at *; omega))) (hcFR_τ a ha)
                  have hcTX_σl : TX 5600 σl (toN n) tp := eσl_h
                  have hcVS_σl : vw 528 σl = μ := by rw [vw_fr (fun j _ _ => eσl_k _ (by omega))]; exact hcVS_τ
                  have hcLS_σl : LR 528 σl nt g := by exact LR.fr hcLS_τ (fun a ha => eσl_k a (by first | omega | (simp only [vb] at *; omega)))
                  have hcLR_σl : LR 0 σl 0 g := by exact LR.fr hcLR_τ (fun a ha => eσl_k a (by first | omega | (simp only [vb] at *; omega)))
                  have hcVL_σl : VL σl tp (toN n) (ln9 tp (toN n) (0, ((tx9 tp (toN n) i).2.1), ((tx9 tp (toN n) i).2.2.1), ((tx9 tp (toN n) i).2.2.2.1), ((tx9 tp (toN n) i).2.2.2.2))).2.1 := eσl_i
                  obtain ⟨μ_19, eμ_19⟩ : ∃ μ_19 : Nat → Int32, μ_19 = (ln9 tp (toN n) (0, ((tx9 tp (toN n) i).2.1), ((tx9 tp (toN n) i).2.2.1), ((tx9 tp (toN n) i).2.2.2.1), ((tx9 tp (toN n) i).2.2.2.2))).2.2.1 := ⟨_, rfl⟩
                  have hvσl : vw 0 σl = μ_19 := by rw [eμ_19]; exact eσl_a
                  refine g_istore_n (L' := [(0, .ref (w.1 0)), (1, .int (nI (toN n))), (2, .int (b2i (decide ((ln9 tp (toN n) (0, ((tx9 tp (toN n) i).2.1), ((tx9 tp (toN n) i).2.2.1), ((tx9 tp (toN n) i).2.2.2.1), ((tx9 tp (toN n) i).2.2.2.2))).1 = 0))))]) h dX12_load_106 rfl (by decide) rfl ?_
                  refine g_goto h dX12_load_107 ?_
                  exact ih91 (decide ((ln9 tp (toN n) (0, ((tx9 tp (toN n) i).2.1), ((tx9 tp (toN n) i).2.2.1), ((tx9 tp (toN n) i).2.2.2.1), ((tx9 tp (toN n) i).2.2.2.2))).1 = 0)) σl (i + 1) (by rw [hN]) (by omega) (by rw [hN]; exact eσl_j) (by rw [hN]; exact (hvσl).trans (by rw [eμ_19])) (by first | exact ht4002_σl | assumption | fail | fail) (by first | exact ht4003_σl | assumption | fail | fail) (by rw [hN]; exact ht4004_σl) (by rw [hN]; exact ht5009_σl) (by exact ht5004_σl) (by rw [hN]; exact ht5005_σl) (by rw [hN]; exact ht5006_σl) (by rw [hN]; exact ht5007_σl) (by first | exact hcTP_σl | assumption | fail | fail) (by first | exact hcFR_σl | assumption | fail | fail) (by first | exact hcTX_σl | assumption | fail | fail) (by first | exact hcVS_σl | assumption | fail | fail) (by first | exact hcLS_σl | assumption | fail | fail) (by first | exact hcLR_σl | assumption | fail | fail) (by rw [hN]; exact hcVL_σl) (by omega)
          exact lp91 (_) true σ_8 0 (by rfl) (by omega) (by intro _; exact hcTD_σ_8) (by exact (hvσ_8).trans (by simp only [eμ_7]; rfl)) (by first | exact ht4002_σ_8 | assumption | fail | fail) (by first | exact ht4003_σ_8 | assumption | fail | fail) (by exact ht4004_σ_8) (by exact ht5009_σ_8) (by exact ht5004_σ_8) (by exact ht5005_σ_8) (by exact ht5006_σ_8) (by exact ht5007_σ_8) (by first | exact hcTP_σ_8 | assumption | fail | fail) (by first | exact hcFR_σ_8 | assumption | fail | fail) (by first | exact hcTX_σ_8 | assumption | fail | fail) (by first | exact hcVS_σ_8 | assumption | fail | fail) (by first | exact hcLS_σ_8 | assumption | fail | fail) (by first | exact hcLR_σ_8 | assumption | fail | fail) (by exact hcVL_σ_8) (Nat.lt_succ_self _)
        ·
          refine g_aload_n h dX12_load_30 0 rfl ?_
          refine g_getr h dX12_load_31 gX12_32 sc_0 rfl ?_
          refine g_iload_n h dX12_load_34 2 rfl ?_
          refine g_aload_n h dX12_load_35 0 rfl ?_
          refine g_getr h dX12_load_36 gX12_28 sc_0 rfl ?_
          refine g_iload_n h dX12_load_39 2 rfl ?_
          refine g_bald h dX12_load_40 sc_7 (by omega) ?_
          refine g_bast h dX12_load_41 sc_8 (by omega) ?_
          refine g_nm (fun σw eσw => ?_)
          have eσw : σw = upd (τ) (5600 + k) (vp_nar .byte ((τ) (4100 + k))) := eσw
          have ht4002_σw : σw 4002 = (nI t) := by rw [eσw, upd_ne (by first | omega | (simp only [vb] at *; omega))]; first | exact ht4002_τ | assumption
          have ht4003_σw : σw 4003 = fk := by rw [eσw, upd_ne (by first | omega | (simp only [vb] at *; omega))]; first | exact ht4003_τ | assumption
          have ht4004_σw : σw 4004 = fp := by rw [eσw, upd_ne (by first | omega | (simp only [vb] at *; omega))]; first | exact ht4004_τ | assumption
          have ht5004_σw : σw 5004 = (nI (toN n)) := by rw [eσw, upd_ne (by first | omega | (simp only [vb] at *; omega))]; first | exact ht5004_τ | assumption
          have hcTP_σw : TX 4100 σw t tp := by rw [eσw]; exact TX.fr hcTP_τ (fun a ha hb => upd_ne (by first | omega | (simp only [vb] at *; omega)))
          have hcLR_σw : LR 0 σw nt g := by rw [eσw]; exact LR.fr hcLR_τ (fun a ha => upd_ne (by first | omega | (simp only [vb] at *; omega)))
          have hcFR_σw : ∀ a, (1056 ≤ a ∧ a ≠ 4000 ∧ a ≠ 4002 ∧ a ≠ 4003 ∧ a ≠ 4004 ∧ (a < 4900 ∨ 6000 ≤ a)) → σw a = σ a := by intro a ha; exact Eq.trans (b := (τ) a) (by rw [eσw, upd_ne (by first | omega | (simp only [vb] at *; omega))]) (hcFR_τ a ha)
          have hcTX_σw : TX 5600 σw k tp := by rw [eσw]; exact TX.fr hcTX_τ (fun a ha hb => upd_ne (by first | omega | (simp only [vb] at *; omega)))
          have hvσw : vw 0 σw = μ := by rw [eσw, vw_out (by omega)]; first | exact hvτ | assumption
          refine g_iincN (b := 1) (L' := [(0, .ref (w.1 0)), (1, .int (nI (toN n))), (2, .int (nI (k + 1)))]) h dX12_load_42 2 rfl rfl (by decide) (by decide) rfl ?_
          refine g_goto h dX12_load_45 ?_
          exact ih25 (k + 1) σw (by omega) (by first | exact hvσw | assumption | fail | fail) (by first | exact ht4002_σw | assumption | fail | fail) (by first | exact ht4003_σw | assumption | fail | fail) (by first | exact ht4004_σw | assumption | fail | fail) (by first | exact ht5004_σw | assumption | fail | fail) (by first | exact hcTP_σw | assumption | fail | fail) (by first | exact hcLR_σw | assumption | fail | fail) (by first | exact hcFR_σw | assumption | fail | fail) (by exact TX.more hcTX_σw (hcTP_τ k (by omega)).1 (by rw [eσw, upd_eq, (hcTP_τ k (by omega)).2]; exact (by8_k (hcTP_τ k (by omega)).1).2.2.2.2.1)) (by omega)
    exact lp25 (_) 0 σ_1 (by omega) (by first | exact hvσ_1 | assumption | fail | fail) (by first | exact ht4002_σ_1 | assumption | fail | fail) (by first | exact ht4003_σ_1 | assumption | fail | fail) (by first | exact ht4004_σ_1 | assumption | fail | fail) (by first | exact ht5004_σ_1 | assumption | fail | fail) (by first | exact hcTP_σ_1 | assumption | fail | fail) (by first | exact hcLR_σ_1 | assumption | fail | fail) (by first | exact hcFR_σ_1 | assumption | fail | fail) (by exact hcTX_σ_1) (Nat.lt_succ_self _)
  ·
    have hs1 : rg n (nI 0) (nI t) = 1 := by unfold rg; rw [if_neg (by rw [c9]; decide)]
    refine g_aload_n h dX12_load_12 0 rfl ?_
    refine g_iconst h dX12_load_13 (by decide) ?_
    refine g_cvi (rest := []) h (r_refuse hW (nI 1) ) lX12_refuse mX12_272 (Nat.lt_of_lt_of_le (by decide) (Nat.le_refl _)) (by decide) sc_0 rfl rfl rfl rfl dX12_load_14 (fun σ_20 eσ_20 => ?_)
    have eσ_20_a : σ_20 = upd σ 4000 (nI 1) := eσ_20
    have ht4002_σ_20 : σ_20 4002 = (nI t) := by rw [eσ_20_a, upd_ne (by first | omega | (simp only [vb] at *; omega))]; first | exact ht4002_σ | assumption
    have ht4003_σ_20 : σ_20 4003 = fk := by rw [eσ_20_a, upd_ne (by first | omega | (simp only [vb] at *; omega))]; first | exact ht4003_σ | assumption
    have ht4004_σ_20 : σ_20 4004 = fp := by rw [eσ_20_a, upd_ne (by first | omega | (simp only [vb] at *; omega))]; first | exact ht4004_σ | assumption
    have ht4000_σ_20 : σ_20 4000 = (nI 1) := by rw [eσ_20_a]; exact upd_eq
    have hcTP_σ_20 : TX 4100 σ_20 t tp := by rw [eσ_20_a]; exact TX.fr hcTP_σ (fun a ha hb => upd_ne (by first | omega | (simp only [vb] at *; omega)))
    have hcLR_σ_20 : LR 0 σ_20 nt g := by rw [eσ_20_a]; exact LR.fr hcLR_σ (fun a ha => upd_ne (by first | omega | (simp only [vb] at *; omega)))
    have hcFR_σ_20 : ∀ a, (1056 ≤ a ∧ a ≠ 4000 ∧ a ≠ 4002 ∧ a ≠ 4003 ∧ a ≠ 4004 ∧ (a < 4900 ∨ 6000 ≤ a)) → σ_20 a = σ a := by intro a ha; exact Eq.trans (b := σ a) (by rw [eσ_20_a, upd_ne (by first | omega | (simp only [vb] at *; omega))]) (hcFR_σ a ha)
    have hvσ_20 : vw 0 σ_20 = μ := by rw [eσ_20_a, vw_out (by omega)]; first | exact hv | assumption
    exact g_iret h hQ dX12_load_17 (congrArg (fun z => some (Value.int z)) (show (an (fo (rg n (nI 0) (nI t)) (if F.1 = 0 then 0 else 9)) (nI (nN F.2.2.1))) = (-1) by first | exact an_yes (by first | (rw [fo_l (by rw [hs1]; decide), hs1]; done) | exact (fo_r hs1).trans (if_neg hF9) | exact (fo_r hs1).trans (if_pos hF9) | fail) (by rw [hEnd]; exact (mi_0 (hA3 (by omega)).1).symm) | exact an_no (k := 1) (by first | (rw [fo_l (by rw [hs1]; decide), hs1]; done) | exact (fo_r hs1).trans (if_neg hF9) | exact (fo_r hs1).trans (if_pos hF9) | fail) (by decide) | fail)) (by exact ⟨(by first | exact pk_yes (by first | (rw [fo_l (by rw [hs1]; decide), hs1]; done) | exact (fo_r hs1).trans (if_neg hF9) | exact (fo_r hs1).trans (if_pos hF9) | fail) (by rw [hEnd]; exact hvσ_20) | exact pk_no (k := 1) (by first | (rw [fo_l (by rw [hs1]; decide), hs1]; done) | exact (fo_r hs1).trans (if_neg hF9) | exact (fo_r hs1).trans (if_pos hF9) | fail) (by decide) (by first | exact hvσ_20 | (rw [hvσ_20]; simp only [Nat.add_zero]; done)) | fail), (by exact tk_eq (k := 1) (by first | (rw [fo_l (by rw [hs1]; decide), hs1]; done) | exact (fo_r hs1).trans (if_neg hF9) | exact (fo_r hs1).trans (if_pos hF9) | fail) ht4000_σ_20), (by first | (rw [if_pos hs1]; exact ht4002_σ_20) | (rw [if_neg (by rw [hs1]; decide)]; exact ht4002_σ_20) | fail), (by first | (rw [if_pos hs1, hEnd]; exact ht4003_σ_20) | (rw [if_neg (by rw [hs1]; decide)]; exact ht4003_σ_20) | fail), (by first | (rw [if_pos hs1, hEnd]; exact ht4004_σ_20) | (rw [if_neg (by rw [hs1]; decide)]; exact ht4004_σ_20) | fail), (by first | (rw [if_pos hs1]; exact TX.le hcTP_σ_20 (by omega)) | (rw [if_neg (by rw [hs1]; decide)]; exact hcTP_σ_20) | fail), (by first | (rw [if_neg (by rw [show fo (rg n (nI 0) (nI t)) (if F.1 = 0 then 0 else 9) = 1 from by first | (rw [fo_l (by rw [hs1]; decide), hs1]; done) | exact (fo_r hs1).trans (if_neg hF9) | exact (fo_r hs1).trans (if_pos hF9) | fail]; decide)]; exact hcLR_σ_20) | exact lr_0 hcLR_σ_20 (if_pos (by first | (rw [fo_l (by rw [hs1]; decide), hs1]; done) | exact (fo_r hs1).trans (if_neg hF9) | exact (fo_r hs1).trans (if_pos hF9) | fail)) | fail), (by exact hcFR_σ_20)⟩)
