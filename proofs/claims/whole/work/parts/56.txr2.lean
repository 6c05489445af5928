/-! the reference's lines -/
def nf9 (x : Nat → Nat) (L e a b : Nat) : Nat := if txK x L e = 2 then rfa (txV x L e) a b else tf9 (txK x L e) 2
def nh9 (μ : Nat → Int32) (x : Nat → Nat) (L e : Nat) (o : Option Nat) : Nat := if txK x L e = 2 then (if txV x L e < nN μ then (if o = some (txV x L e) then 4 else 0) else 3) else tf9 (txK x L e) 2
theorem rfa_b {v a b : Nat} (hv : v < 1000) (ha : a < 1000) (hb : b < 1000) : (decide (nI a ≤ nI v) && decide (nI v ≤ nI b)) = decide (rfa v a b = 0) := by
  simp only [nI_leq (a := a) (b := v) (by omega) (by omega), nI_leq (a := v) (b := b) (by omega) (by omega)]
  unfold rfa
  by_cases c : a ≤ v ∧ v ≤ b
  · rw [if_pos c, decide_eq_true c.1, decide_eq_true c.2]; rfl
  · rw [if_neg c]
    rw [show (decide (4 = 0)) = false from rfl]
    by_cases c1 : a ≤ v
    · rw [decide_eq_false (fun q => c ⟨c1, q⟩), Bool.and_false]
    · rw [decide_eq_false c1, Bool.false_and]
theorem rfa_4 {v a b : Nat} (h : rfa v a b ≠ 0) : rfa v a b = 4 := by
  unfold rfa at h ⊢
  by_cases c : a ≤ v ∧ v ≤ b
  · rw [if_pos c] at h; exact absurd rfl h
  · rw [if_neg c]
section NH
variable {x : Nat → Nat} {L e a b : Nat} {μ : Nat → Int32} {o : Option Nat}
theorem nf9_n (h : ¬ txK x L e = 2) : nf9 x L e a b = tff (txK x L e) 2 := by
  unfold nf9
  rw [if_neg h]
  exact tf9_n h
theorem nf9_y (h : txK x L e = 2) : nf9 x L e a b = rfa (txV x L e) a b := by
  unfold nf9
  rw [if_pos h]
theorem nh9_n (h : ¬ txK x L e = 2) : nh9 μ x L e o = tff (txK x L e) 2 := by
  unfold nh9
  rw [if_neg h]
  exact tf9_n h
theorem nh9_3 (h : txK x L e = 2) (hv : nN μ ≤ txV x L e) : nh9 μ x L e o = 3 := by
  unfold nh9
  rw [if_pos h, if_neg (by omega)]
theorem nh9_4 (h : txK x L e = 2) (hv : txV x L e < nN μ) (ho : nI (txV x L e) = oI o) (hb : ∀ b, o = some b → b < 1000) : nh9 μ x L e o = 4 := by
  unfold nh9
  have h8 := txV_lt h
  have q : o = some (txV x L e) := by
    cases o with
    | none => exact absurd ho (nI_ne_m1 (by omega))
    | some b => rw [nI_inj (by omega) (by have := hb b rfl; omega) ho]
  rw [if_pos h, if_pos hv, if_pos q]
theorem nh9_0 (h : nh9 μ x L e o = 0) : txK x L e = 2 ∧ txV x L e < nN μ ∧ o ≠ some (txV x L e) := by
  unfold nh9 at h
  by_cases c : txK x L e = 2
  · rw [if_pos c] at h
    by_cases c1 : txV x L e < nN μ
    · rw [if_pos c1] at h
      by_cases c2 : o = some (txV x L e)
      · rw [if_pos c2] at h; cases h
      · exact ⟨c, c1, c2⟩
    · rw [if_neg c1] at h; cases h
  · rw [if_neg c] at h
    exact absurd (tf9_0 h) c
theorem nh9_y (h : txK x L e = 2) (hv : txV x L e < nN μ) (ho : ¬ nI (txV x L e) = oI o) : nh9 μ x L e o = 0 := by
  unfold nh9
  rw [if_pos h, if_pos hv, if_neg (fun q => ho (by rw [q]; rfl))]
theorem nh_af {k : Nat} (hk : k = 1 ∨ k = 2 ∨ k = 3 ∨ k = 7) : af9 x L μ k 0 a e = nh9 μ x L e none := by
  unfold af9 nh9
  rcases hk with rfl | rfl | rfl | rfl <;> (by_cases c : txK x L e = 2) <;> simp [c, AF, nfa]
theorem nh_af1 {k : Nat} (hk : k = 2 ∨ k = 3 ∨ k = 7) : af9 x L μ k 1 a e = nh9 μ x L e (some a) := by
  unfold af9 nh9
  rw [(AF_two hk).2]
  by_cases c : txK x L e = 2
  · rw [if_pos c, if_pos c]
    by_cases c1 : txV x L e < nN μ
    · rw [if_pos c1, if_pos c1]
      by_cases c2 : txV x L e = a
      · rw [if_pos c2, if_pos (by rw [c2])]
      · rw [if_neg c2, if_neg (fun q => c2 (Option.some.inj q).symm)]
    · rw [if_neg c1, if_neg c1]
  · rw [if_neg c, if_neg c]
theorem nf_af {k i a' b' : Nat} (h : ∀ v, AF μ k i a v = rfa v a' b') : af9 x L μ k i a e = nf9 x L e a' b' := by
  unfold af9 nf9
  by_cases c : txK x L e = 2
  · rw [if_pos c, if_pos c, h]
  · rw [if_neg c, if_neg c]
theorem ar9_no {k n i : Nat} (h : af9 x L μ k i a e ≠ 0) : ar9 x L μ k (n + 1) i a e = (af9 x L μ k i a e, e) := by
  show (if af9 x L μ k i a e = 0 then ar9 x L μ k n (i + 1) (if i = 0 then txV x L e else a) (txE x L e) else (af9 x L μ k i a e, e)) = _
  rw [if_neg h]
theorem ar9_y0 {k n : Nat} (h : af9 x L μ k 0 a e = 0) : ar9 x L μ k (n + 1) 0 a e = ar9 x L μ k n 1 (txV x L e) (txE x L e) := by
  show (if af9 x L μ k 0 a e = 0 then ar9 x L μ k n (0 + 1) (if 0 = 0 then txV x L e else a) (txE x L e) else (af9 x L μ k 0 a e, e)) = _
  rw [if_pos h, if_pos rfl]
theorem ar9_y1 {k n i : Nat} (h : af9 x L μ k (i + 1) a e = 0) : ar9 x L μ k (n + 1) (i + 1) a e = ar9 x L μ k n (i + 2) a (txE x L e) := by
  show (if af9 x L μ k (i + 1) a e = 0 then ar9 x L μ k n (i + 1 + 1) (if i + 1 = 0 then txV x L e else a) (txE x L e) else (af9 x L μ k (i + 1) a e, e)) = _
  rw [if_pos h, if_neg (by omega)]
end NH
def kb (p : Bool) : Nat := match p with
  | true => 2
  | false => 3
theorem kb_i (p : Bool) : kb p = 2 ∨ kb p = 3 := by cases p <;> decide
theorem upd_com {μ : Nat → Int32} {a b : Nat} {x y : Int32} (h : a ≠ b) : upd (upd μ a x) b y = upd (upd μ b y) a x := by
  funext c
  by_cases e1 : c = b
  · rw [e1, upd_eq, upd_ne (Ne.symm h), upd_eq]
  · rw [upd_ne e1]
    by_cases e2 : c = a
    · rw [e2, upd_eq, upd_eq]
    · rw [upd_ne e2, upd_ne e2, upd_ne e1]
def cl9 (x : Nat → Nat) (L e : Nat) : Nat := if txK x L e = 3 then txE x L e else e

set_option maxRecDepth 100000 in
set_option maxHeartbeats 4000000 in
theorem r_isNumber {l : Launch} {w : Wd} (hW : Wi w) {σ : Mem} (lo hi e L : Nat) (x : Nat → Nat) (p0 : Int32) (hlo : lo < 1000) (hhi : hi < 1000) (ht5005_σ : σ 5005 = (nI (kr (txK x L e)))) (ht5006_σ : σ 5006 = (nI (txS x L e))) (ht5009_σ : σ 5009 = (nI 0)) (ht4004_σ : σ 4004 = p0) (hcVL_σ : VL σ x L e) : MC l w qX12_isNumber 1 [.ref (w.1 0), .int (nI lo), .int (nI hi)] σ (some (.int (b2i (decide (nf9 x L e lo hi = 0))))) (fun σ' => (σ' 5009 = (nI (nf9 x L e lo hi))) ∧ (σ' 4004 = (if nf9 x L e lo hi = 0 then p0 else nI (txS x L e))) ∧ (∀ a, (a ≠ 5009 ∧ a ≠ 4004) → σ' a = σ a)) := by
  refine MC.of hW (by decide +kernel) (Nat.le_of_ble_eq_true rfl) (fun X h hQ hnm => ?_)
  have h : Fx X w cX12_isNumber 3 RX12 1 := h
  have hQ : Qx X w (some .boolean) (some (.int (b2i (decide (nf9 x L e lo hi = 0))))) (fun σ' => (σ' 5009 = (nI (nf9 x L e lo hi))) ∧ (σ' 4004 = (if nf9 x L e lo hi = 0 then p0 else nI (txS x L e))) ∧ (∀ a, (a ≠ 5009 ∧ a ≠ 4004) → σ' a = σ a)) := hQ
  have h5 := (kr_i (x := x) (L := L) (e := e)).2.2.2.2.2
  have hcFR_σ : ∀ a, (a ≠ 5009 ∧ a ≠ 4004) → σ a = σ a := fun _ _ => rfl
  show G X w 3 0 [(0, .ref (w.1 0)), (1, .int (nI lo)), (2, .int (nI hi))] [] σ
  refine g_aload_n h dX12_isNumber_0 0 rfl ?_
  refine g_geti h dX12_isNumber_1 gX12_196 sc_0 rfl ?_
  refine g_top (y := (nI (kr (txK x L e)))) (by first | exact ht5005_σ | assumption) ?_
  refine g_iconst h dX12_isNumber_4 (by decide) ?_
  refine g_icmpN_eq h dX12_isNumber_5 (by omega) (by omega) (fun c5 => ?_) (fun c5 => ?_)
  ·
    refine g_aload_n h dX12_isNumber_14 0 rfl ?_
    refine g_geti h dX12_isNumber_15 gX12_205 sc_0 rfl ?_
    refine g_top (y := (nI (txV x L e))) (hcVL_σ (kr_i.2.2.2.1.mp c5)) ?_
    refine g_iload_n h dX12_isNumber_18 1 rfl ?_
    refine g_iload_n h dX12_isNumber_19 2 rfl ?_
    refine g_cspi (rest := []) h (r_isFrom hW (nI (txV x L e)) (nI lo) (nI hi) ) lX12_isFrom mX12_134 (Nat.lt_of_lt_of_le (by decide) (Nat.le_refl _)) (by decide) rfl rfl rfl dX12_isNumber_20 ?_
    refine g_top (y := (b2i (decide (rfa (txV x L e) lo hi = 0)))) (congrArg b2i (rfa_b (txV_lt (kr_i.2.2.2.1.mp c5)) hlo hhi)) ?_
    refine g_ifB_ne h dX12_isNumber_23 (fun c23 => ?_) (fun c23 => ?_)
    ·
      have hF : nf9 x L e lo hi = 0 := by rw [nf9_y (kr_i.2.2.2.1.mp c5)]; exact of_decide_eq_true c23
      refine g_iconst h dX12_isNumber_34 (by decide) ?_
      refine g_goto h dX12_isNumber_35 ?_
      exact g_zret h hQ dX12_isNumber_39 (show narrow .boolean (.int (b2i true)) = .int (b2i true) from narrow_b2i _) (congrArg (fun z => some (Value.int (b2i z))) (show (decide (nf9 x L e lo hi = 0)) = true by rw [hF]; first | rfl | exact decide_eq_true rfl | exact decide_eq_false (tff_0 (by decide)) | decide)) (by exact ⟨(by first | (rw [hF]; exact ht5009_σ) | (rw [hF, ht5009_σ, tff_2 (kr_i.2.2.2.1.mp c5)]) | fail), (by first | (rw [if_pos hF]; exact ht4004_σ) | (rw [if_neg (by rw [hF]; first | exact tff_0 (by decide) | decide)]; exact ht4004_σ) | fail), (by exact hcFR_σ)⟩)
    ·
      have hF : nf9 x L e lo hi = 4 := by rw [nf9_y (kr_i.2.2.2.1.mp c5)]; exact rfa_4 (of_decide_eq_false c23)
      refine g_aload_n h dX12_isNumber_26 0 rfl ?_
      refine g_iconst h dX12_isNumber_27 (by decide) ?_
      refine g_cvi (rest := []) h (r_fails hW 4 e L x (by omega) (by first | exact ht5005_σ | assumption | fail) (by first | exact ht5006_σ | assumption | fail) (by first | exact ht5009_σ | assumption | fail)) lX12_fails mX12_226 (Nat.lt_of_lt_of_le (by decide) (Nat.le_refl _)) (by decide) sc_0 rfl rfl rfl rfl dX12_isNumber_28 (fun σ_1 eσ_1 => ?_)
      obtain ⟨eσ_1_a, eσ_1_b, eσ_1_c⟩ := eσ_1
      have eσ_1_a : σ_1 5009 = (nI (tff (txK x L e) 4)) := eσ_1_a
      have eσ_1_b : σ_1 4004 = (nI (txS x L e)) := eσ_1_b
      have eσ_1_c : ∀ a, (a ≠ 5009 ∧ a ≠ 4004) → σ_1 a = σ a := eσ_1_c
      have ht5005_σ_1 : σ_1 5005 = (nI (kr (txK x L e))) := by rw [eσ_1_c _ (by first | omega | (simp only [vb] at *; omega))]; first | exact ht5005_σ | assumption
      have ht5006_σ_1 : σ_1 5006 = (nI (txS x L e)) := by rw [eσ_1_c _ (by first | omega | (simp only [vb] at *; omega))]; first | exact ht5006_σ | assumption
      have ht5009_σ_1 : σ_1 5009 = (nI (tff (txK x L e) 4)) := eσ_1_a
      have ht4004_σ_1 : σ_1 4004 = (nI (txS x L e)) := eσ_1_b
      have hcVL_σ_1 : VL σ_1 x L e := by exact VL.fr hcVL_σ (eσ_1_c _ (by first | omega | (simp only [vb] at *; omega)))
      have hcFR_σ_1 : ∀ a, (a ≠ 5009 ∧ a ≠ 4004) → σ_1 a = σ a := by intro a ha; exact Eq.trans (b := σ a) (eσ_1_c a (by first | omega | (simp only [vb] at *; omega))) (hcFR_σ a ha)
      refine g_top (y := nI 0) rfl ?_
      refine g_ifN_eq h dX12_isNumber_31 (by decide) (fun c31 => ?_) (fun c31 => absurd c31 (by decide))
      refine g_iconst h dX12_isNumber_38 (by decide) ?_
      exact g_zret h hQ dX12_isNumber_39 (show narrow .boolean (.int (b2i false)) = .int (b2i false) from narrow_b2i _) (congrArg (fun z => some (Value.int (b2i z))) (show (decide (nf9 x L e lo hi = 0)) = false by rw [hF]; first | rfl | exact decide_eq_true rfl | exact decide_eq_false (tff_0 (by decide)) | decide)) (by exact ⟨(by first | (rw [hF]; exact ht5009_σ_1) | (rw [hF, ht5009_σ_1, tff_2 (kr_i.2.2.2.1.mp c5)]) | fail), (by first | (rw [if_pos hF]; exact ht4004_σ_1) | (rw [if_neg (by rw [hF]; first | exact tff_0 (by decide) | decide)]; exact ht4004_σ_1) | fail), (by exact hcFR_σ_1)⟩)
  ·
    have hF : nf9 x L e lo hi = tff (txK x L e) 2 := nf9_n (fun z => c5 (kr_i.2.2.2.1.mpr z))
    refine g_aload_n h dX12_isNumber_8 0 rfl ?_
    refine g_iconst h dX12_isNumber_9 (by decide) ?_
    refine g_cvi (rest := []) h (r_fails hW 2 e L x (by omega) (by first | exact ht5005_σ | assumption | fail) (by first | exact ht5006_σ | assumption | fail) (by first | exact ht5009_σ | assumption | fail)) lX12_fails mX12_226 (Nat.lt_of_lt_of_le (by decide) (Nat.le_refl _)) (by decide) sc_0 rfl rfl rfl rfl dX12_isNumber_10 (fun σ_2 eσ_2 => ?_)
    obtain ⟨eσ_2_a, eσ_2_b, eσ_2_c⟩ := eσ_2
    have eσ_2_a : σ_2 5009 = (nI (tff (txK x L e) 2)) := eσ_2_a
    have eσ_2_b : σ_2 4004 = (nI (txS x L e)) := eσ_2_b
    have eσ_2_c : ∀ a, (a ≠ 5009 ∧ a ≠ 4004) → σ_2 a = σ a := eσ_2_c
    have ht5005_σ_2 : σ_2 5005 = (nI (kr (txK x L e))) := by rw [eσ_2_c _ (by first | omega | (simp only [vb] at *; omega))]; first | exact ht5005_σ | assumption
    have ht5006_σ_2 : σ_2 5006 = (nI (txS x L e)) := by rw [eσ_2_c _ (by first | omega | (simp only [vb] at *; omega))]; first | exact ht5006_σ | assumption
    have ht5009_σ_2 : σ_2 5009 = (nI (tff (txK x L e) 2)) := eσ_2_a
    have ht4004_σ_2 : σ_2 4004 = (nI (txS x L e)) := eσ_2_b
    have hcVL_σ_2 : VL σ_2 x L e := by exact VL.fr hcVL_σ (eσ_2_c _ (by first | omega | (simp only [vb] at *; omega)))
    have hcFR_σ_2 : ∀ a, (a ≠ 5009 ∧ a ≠ 4004) → σ_2 a = σ a := by intro a ha; exact Eq.trans (b := σ a) (eσ_2_c a (by first | omega | (simp only [vb] at *; omega))) (hcFR_σ a ha)
    refine g_top (y := nI 0) rfl ?_
    exact g_zret h hQ dX12_isNumber_13 (show narrow .boolean (.int (b2i false)) = .int (b2i false) from narrow_b2i _) (congrArg (fun z => some (Value.int (b2i z))) (show (decide (nf9 x L e lo hi = 0)) = false by rw [hF]; first | rfl | exact decide_eq_true rfl | exact decide_eq_false (tff_0 (by decide)) | decide)) (by exact ⟨(by first | (rw [hF]; exact ht5009_σ_2) | (rw [hF, ht5009_σ_2, tff_2 (kr_i.2.2.2.1.mp c5)]) | fail), (by first | (rw [if_pos hF]; exact ht4004_σ_2) | (rw [if_neg (by rw [hF]; first | exact tff_0 (by decide) | decide)]; exact ht4004_σ_2) | fail), (by exact hcFR_σ_2)⟩)

set_option maxRecDepth 100000 in
set_option maxHeartbeats 4000000 in
theorem r_isNodeHere {l : Launch} {w : Wd} (hW : Wi w) {σ : Mem} (o : Option Nat) (e L : Nat) (x : Nat → Nat) (p0 : Int32) (μ : Nat → Int32) (hv : vw 0 σ = μ) (hI : MI μ) (ho : ∀ b, o = some b → b < 1000) (ht5005_σ : σ 5005 = (nI (kr (txK x L e)))) (ht5006_σ : σ 5006 = (nI (txS x L e))) (ht5009_σ : σ 5009 = (nI 0)) (ht4004_σ : σ 4004 = p0) (hcVL_σ : VL σ x L e) : MC l w qX12_isNodeHere 1 [.ref (w.1 0), .int (oI o)] σ (some (.int (b2i (decide (nh9 μ x L e o = 0))))) (fun σ' => (σ' 5009 = (nI (nh9 μ x L e o))) ∧ (σ' 4004 = (if nh9 μ x L e o = 0 then p0 else nI (txS x L e))) ∧ (∀ a, (a ≠ 5009 ∧ a ≠ 4004) → σ' a = σ a)) := by
  refine MC.of hW (by decide +kernel) (Nat.le_of_ble_eq_true rfl) (fun X h hQ hnm => ?_)
  have h : Fx X w cX12_isNodeHere 2 RX12 1 := h
  have hQ : Qx X w (some .boolean) (some (.int (b2i (decide (nh9 μ x L e o = 0))))) (fun σ' => (σ' 5009 = (nI (nh9 μ x L e o))) ∧ (σ' 4004 = (if nh9 μ x L e o = 0 then p0 else nI (txS x L e))) ∧ (∀ a, (a ≠ 5009 ∧ a ≠ 4004) → σ' a = σ a)) := hQ
  have hN8 := mi_8 hI
  have h5 := (kr_i (x := x) (L := L) (e := e)).2.2.2.2.2
  have hcFR_σ : ∀ a, (a ≠ 5009 ∧ a ≠ 4004) → σ a = σ a := fun _ _ => rfl
  show G X w 2 0 [(0, .ref (w.1 0)), (1, .int (oI o))] [] σ
  refine g_aload_n h dX12_isNodeHere_0 0 rfl ?_
  refine g_geti h dX12_isNodeHere_1 gX12_196 sc_0 rfl ?_
  refine g_top (y := (nI (kr (txK x L e)))) (by first | exact ht5005_σ | assumption) ?_
  refine g_iconst h dX12_isNodeHere_4 (by decide) ?_
  refine g_icmpN_eq h dX12_isNodeHere_5 (by omega) (by omega) (fun c5 => ?_) (fun c5 => ?_)
  ·
    have hv9 := txV_lt (kr_i.2.2.2.1.mp c5)
    refine g_aload_n h dX12_isNodeHere_14 0 rfl ?_
    refine g_geti h dX12_isNodeHere_15 gX12_205 sc_0 rfl ?_
    refine g_top (y := (nI (txV x L e))) (hcVL_σ (kr_i.2.2.2.1.mp c5)) ?_
    refine g_aload_n h dX12_isNodeHere_18 0 rfl ?_
    refine g_iconst h dX12_isNodeHere_19 (by decide) ?_
    refine g_cvpi (rest := [.int (nI (txV x L e))]) h (r_of hW 0 μ (by assumption) (by omega)) lX12_of mX12_61 (Nat.lt_of_lt_of_le (by decide) (Nat.le_refl _)) (by decide) sc_0 rfl rfl rfl rfl dX12_isNodeHere_20 ?_
    refine g_top (y := nI (nN μ)) (mi_0 (by assumption)) ?_
    refine g_icmpN_lt h dX12_isNodeHere_23 (by omega) (by omega) (fun c23 => ?_) (fun c23 => ?_)
    ·
      refine g_aload_n h dX12_isNodeHere_32 0 rfl ?_
      refine g_geti h dX12_isNodeHere_33 gX12_205 sc_0 rfl ?_
      refine g_top (y := (nI (txV x L e))) (hcVL_σ (kr_i.2.2.2.1.mp c5)) ?_
      refine g_iload_n h dX12_isNodeHere_36 1 rfl ?_
      refine g_icmp_ne h dX12_isNodeHere_37 (fun c37 => ?_) (fun c37 => ?_)
      ·
        have hF : nh9 μ x L e o = 0 := nh9_y (kr_i.2.2.2.1.mp c5) (by omega) c37
        refine g_iconst h dX12_isNodeHere_48 (by decide) ?_
        refine g_goto h dX12_isNodeHere_49 ?_
        exact g_zret h hQ dX12_isNodeHere_53 (show narrow .boolean (.int (b2i true)) = .int (b2i true) from narrow_b2i _) (congrArg (fun z => some (Value.int (b2i z))) (show (decide (nh9 μ x L e o = 0)) = true by rw [hF]; first | rfl | exact decide_eq_true rfl | exact decide_eq_false (tff_0 (by decide)) | decide)) (by exact ⟨(by first | (rw [hF]; exact ht5009_σ) | (rw [hF, ht5009_σ, tff_2 (kr_i.2.2.2.1.mp c5)]) | fail), (by first | (rw [if_pos hF]; exact ht4004_σ) | (rw [if_neg (by rw [hF]; first | exact tff_0 (by decide) | decide)]; exact ht4004_σ) | fail), (by exact hcFR_σ)⟩)
      ·
        have hF : nh9 μ x L e o = 4 := nh9_4 (kr_i.2.2.2.1.mp c5) (by omega) c37 ho
        refine g_aload_n h dX12_isNodeHere_40 0 rfl ?_
        refine g_iconst h dX12_isNodeHere_41 (by decide) ?_
        refine g_cvi (rest := []) h (r_fails hW 4 e L x (by omega) (by first | exact ht5005_σ | assumption | fail) (by first | exact ht5006_σ | assumption | fail) (by first | exact ht5009_σ | assumption | fail)) lX12_fails mX12_226 (Nat.lt_of_lt_of_le (by decide) (Nat.le_refl _)) (by decide) sc_0 rfl rfl rfl rfl dX12_isNodeHere_42 (fun σ_1 eσ_1 => ?_)
        obtain ⟨eσ_1_a, eσ_1_b, eσ_1_c⟩ := eσ_1
        have eσ_1_a : σ_1 5009 = (nI (tff (txK x L e) 4)) := eσ_1_a
        have eσ_1_b : σ_1 4004 = (nI (txS x L e)) := eσ_1_b
        have eσ_1_c : ∀ a, (a ≠ 5009 ∧ a ≠ 4004) → σ_1 a = σ a := eσ_1_c
        have ht5005_σ_1 : σ_1 5005 = (nI (kr (txK x L e))) := by rw [eσ_1_c _ (by first | omega | (simp only [vb] at *; omega))]; first | exact ht5005_σ | assumption
        have ht5006_σ_1 : σ_1 5006 = (nI (txS x L e)) := by rw [eσ_1_c _ (by first | omega | (simp only [vb] at *; omega))]; first | exact ht5006_σ | assumption
        have ht5009_σ_1 : σ_1 5009 = (nI (tff (txK x L e) 4)) := eσ_1_a
        have ht4004_σ_1 : σ_1 4004 = (nI (txS x L e)) := eσ_1_b
        have hcVL_σ_1 : VL σ_1 x L e := by exact VL.fr hcVL_σ (eσ_1_c _ (by first | omega | (simp only [vb] at *; omega)))
        have hcFR_σ_1 : ∀ a, (a ≠ 5009 ∧ a ≠ 4004) → σ_1 a = σ a := by intro a ha; exact Eq.trans (b := σ a) (eσ_1_c a (by first | omega | (simp only [vb] at *; omega))) (hcFR_σ a ha)
        have hvσ_1 : vw 0 σ_1 = μ := by rw [vw_fr (σ := σ) (fun j _ _ => eσ_1_c _ (by first | omega | (simp only [vb] at *; omega)))]; first | exact hv | assumption
        refine g_top (y := nI 0) rfl ?_
        refine g_ifN_eq h dX12_isNodeHere_45 (by decide) (fun c45 => ?_) (fun c45 => absurd c45 (by decide))
        refine g_iconst h dX12_isNodeHere_52 (by decide) ?_
        exact g_zret h hQ dX12_isNodeHere_53 (show narrow .boolean (.int (b2i false)) = .int (b2i false) from narrow_b2i _) (congrArg (fun z => some (Value.int (b2i z))) (show (decide (nh9 μ x L e o = 0)) = false by rw [hF]; first | rfl | exact decide_eq_true rfl | exact decide_eq_false (tff_0 (by decide)) | decide)) (by exact ⟨(by first | (rw [hF]; exact ht5009_σ_1) | (rw [hF, ht5009_σ_1, tff_2 (kr_i.2.2.2.1.mp c5)]) | fail), (by first | (rw [if_pos hF]; exact ht4004_σ_1) | (rw [if_neg (by rw [hF]; first | exact tff_0 (by decide) | decide)]; exact ht4004_σ_1) | fail), (by exact hcFR_σ_1)⟩)
    ·
      have hF : nh9 μ x L e o = 3 := nh9_3 (kr_i.2.2.2.1.mp c5) (by omega)
      refine g_aload_n h dX12_isNodeHere_26 0 rfl ?_
      refine g_iconst h dX12_isNodeHere_27 (by decide) ?_
      refine g_cvi (rest := []) h (r_fails hW 3 e L x (by omega) (by first | exact ht5005_σ | assumption | fail) (by first | exact ht5006_σ | assumption | fail) (by first | exact ht5009_σ | assumption | fail)) lX12_fails mX12_226 (Nat.lt_of_lt_of_le (by decide) (Nat.le_refl _)) (by decide) sc_0 rfl rfl rfl rfl dX12_isNodeHere_28 (fun σ_2 eσ_2 => ?_)
      obtain ⟨eσ_2_a, eσ_2_b, eσ_2_c⟩ := eσ_2
      have eσ_2_a : σ_2 5009 = (nI (tff (txK x L e) 3)) := eσ_2_a
      have eσ_2_b : σ_2 4004 = (nI (txS x L e)) := eσ_2_b
      have eσ_2_c : ∀ a, (a ≠ 5009 ∧ a ≠ 4004) → σ_2 a = σ a := eσ_2_c
      have ht5005_σ_2 : σ_2 5005 = (nI (kr (txK x L e))) := by rw [eσ_2_c _ (by first | omega | (simp only [vb] at *; omega))]; first | exact ht5005_σ | assumption
      have ht5006_σ_2 : σ_2 5006 = (nI (txS x L e)) := by rw [eσ_2_c _ (by first | omega | (simp only [vb] at *; omega))]; first | exact ht5006_σ | assumption
      have ht5009_σ_2 : σ_2 5009 = (nI (tff (txK x L e) 3)) := eσ_2_a
      have ht4004_σ_2 : σ_2 4004 = (nI (txS x L e)) := eσ_2_b
      have hcVL_σ_2 : VL σ_2 x L e := by exact VL.fr hcVL_σ (eσ_2_c _ (by first | omega | (simp only [vb] at *; omega)))
      have hcFR_σ_2 : ∀ a, (a ≠ 5009 ∧ a ≠ 4004) → σ_2 a = σ a := by intro a ha; exact Eq.trans (b := σ a) (eσ_2_c a (by first | omega | (simp only [vb] at *; omega))) (hcFR_σ a ha)
      have hvσ_2 : vw 0 σ_2 = μ := by rw [vw_fr (σ := σ) (fun j _ _ => eσ_2_c _ (by first | omega | (simp only [vb] at *; omega)))]; first | exact hv | assumption
      refine g_top (y := nI 0) rfl ?_
      exact g_zret h hQ dX12_isNodeHere_31 (show narrow .boolean (.int (b2i false)) = .int (b2i false) from narrow_b2i _) (congrArg (fun z => some (Value.int (b2i z))) (show (decide (nh9 μ x L e o = 0)) = false by rw [hF]; first | rfl | exact decide_eq_true rfl | exact decide_eq_false (tff_0 (by decide)) | decide)) (by exact ⟨(by first | (rw [hF]; exact ht5009_σ_2) | (rw [hF, ht5009_σ_2, tff_2 (kr_i.2.2.2.1.mp c5)]) | fail), (by first | (rw [if_pos hF]; exact ht4004_σ_2) | (rw [if_neg (by rw [hF]; first | exact tff_0 (by decide) | decide)]; exact ht4004_σ_2) | fail), (by exact hcFR_σ_2)⟩)
  ·
    have hF : nh9 μ x L e o = tff (txK x L e) 2 := nh9_n (fun z => c5 (kr_i.2.2.2.1.mpr z))
    refine g_aload_n h dX12_isNodeHere_8 0 rfl ?_
    refine g_iconst h dX12_isNodeHere_9 (by decide) ?_
    refine g_cvi (rest := []) h (r_fails hW 2 e L x (by omega) (by first | exact ht5005_σ | assumption | fail) (by first | exact ht5006_σ | assumption | fail) (by first | exact ht5009_σ | assumption | fail)) lX12_fails mX12_226 (Nat.lt_of_lt_of_le (by decide) (Nat.le_refl _)) (by decide) sc_0 rfl rfl rfl rfl dX12_isNodeHere_10 (fun σ_3 eσ_3 => ?_)
    obtain ⟨eσ_3_a, eσ_3_b, eσ_3_c⟩ := eσ_3
    have eσ_3_a : σ_3 5009 = (nI (tff (txK x L e) 2)) := eσ_3_a
    have eσ_3_b : σ_3 4004 = (nI (txS x L e)) := eσ_3_b
    have eσ_3_c : ∀ a, (a ≠ 5009 ∧ a ≠ 4004) → σ_3 a = σ a := eσ_3_c
    have ht5005_σ_3 : σ_3 5005 = (nI (kr (txK x L e))) := by rw [eσ_3_c _ (by first | omega | (simp only [vb] at *; omega))]; first | exact ht5005_σ | assumption
    have ht5006_σ_3 : σ_3 5006 = (nI (txS x L e)) := by rw [eσ_3_c _ (by first | omega | (simp only [vb] at *; omega))]; first | exact ht5006_σ | assumption
    have ht5009_σ_3 : σ_3 5009 = (nI (tff (txK x L e) 2)) := eσ_3_a
    have ht4004_σ_3 : σ_3 4004 = (nI (txS x L e)) := eσ_3_b
    have hcVL_σ_3 : VL σ_3 x L e := by exact VL.fr hcVL_σ (eσ_3_c _ (by first | omega | (simp only [vb] at *; omega)))
    have hcFR_σ_3 : ∀ a, (a ≠ 5009 ∧ a ≠ 4004) → σ_3 a = σ a := by intro a ha; exact Eq.trans (b := σ a) (eσ_3_c a (by first | omega | (simp only [vb] at *; omega))) (hcFR_σ a ha)
    have hvσ_3 : vw 0 σ_3 = μ := by rw [vw_fr (σ := σ) (fun j _ _ => eσ_3_c _ (by first | omega | (simp only [vb] at *; omega)))]; first | exact hv | assumption
    refine g_top (y := nI 0) rfl ?_
    exact g_zret h hQ dX12_isNodeHere_13 (show narrow .boolean (.int (b2i false)) = .int (b2i false) from narrow_b2i _) (congrArg (fun z => some (Value.int (b2i z))) (show (decide (nh9 μ x L e o = 0)) = false by rw [hF]; first | rfl | exact decide_eq_true rfl | exact decide_eq_false (tff_0 (by decide)) | decide)) (by exact ⟨(by first | (rw [hF]; exact ht5009_σ_3) | (rw [hF, ht5009_σ_3, tff_2 (kr_i.2.2.2.1.mp c5)]) | fail), (by first | (rw [if_pos hF]; exact ht4004_σ_3) | (rw [if_neg (by rw [hF]; first | exact tff_0 (by decide) | decide)]; exact ht4004_σ_3) | fail), (by exact hcFR_σ_3)⟩)

set_option maxRecDepth 100000 in
set_option maxHeartbeats 4000000 in
theorem r_closes {l : Launch} {w : Wd} (hW : Wi w) {σ : Mem} (e L : Nat) (x : Nat → Nat) (p0 : Int32) (he : e ≤ L) (hL : L ≤ 400) (ht5004_σ : σ 5004 = (nI L)) (ht5005_σ : σ 5005 = (nI (kr (txK x L e)))) (ht5006_σ : σ 5006 = (nI (txS x L e))) (ht5007_σ : σ 5007 = (nI (txE x L e))) (ht5009_σ : σ 5009 = (nI 0)) (ht4004_σ : σ 4004 = p0) (hcTX_σ : TX 5600 σ L x) (hcVL_σ : VL σ x L e) : MC l w qX12_closes 3 [.ref (w.1 0)] σ (some (.int (b2i (decide (tf9 (txK x L e) 3 = 0))))) (fun σ' => (σ' 5004 = (nI L)) ∧ (σ' 5005 = (nI (kr (txK x L (cl9 x L e))))) ∧ (σ' 5006 = (nI (txS x L (cl9 x L e)))) ∧ (σ' 5007 = (nI (txE x L (cl9 x L e)))) ∧ (σ' 5009 = (nI (tf9 (txK x L e) 3))) ∧ (σ' 4004 = (if tf9 (txK x L e) 3 = 0 then p0 else nI (txS x L (cl9 x L e)))) ∧ (TX 5600 σ' L x) ∧ (VL σ' x L (cl9 x L e)) ∧ (∀ a, (a ≠ 5009 ∧ a ≠ 4004 ∧ (a < 5005 ∨ 5008 < a)) → σ' a = σ a)) := by
  refine MC.of hW (by decide +kernel) (Nat.le_of_ble_eq_true rfl) (fun X h hQ hnm => ?_)
  have h : Fx X w cX12_closes 1 RX12 3 := h
  have hQ : Qx X w (some .boolean) (some (.int (b2i (decide (tf9 (txK x L e) 3 = 0))))) (fun σ' => (σ' 5004 = (nI L)) ∧ (σ' 5005 = (nI (kr (txK x L (cl9 x L e))))) ∧ (σ' 5006 = (nI (txS x L (cl9 x L e)))) ∧ (σ' 5007 = (nI (txE x L (cl9 x L e)))) ∧ (σ' 5009 = (nI (tf9 (txK x L e) 3))) ∧ (σ' 4004 = (if tf9 (txK x L e) 3 = 0 then p0 else nI (txS x L (cl9 x L e)))) ∧ (TX 5600 σ' L x) ∧ (VL σ' x L (cl9 x L e)) ∧ (∀ a, (a ≠ 5009 ∧ a ≠ 4004 ∧ (a < 5005 ∨ 5008 < a)) → σ' a = σ a)) := hQ
  have h5 := (kr_i (x := x) (L := L) (e := e)).2.2.2.2.2
  have hb := tx_b (x := x) he
  have hcFR_σ : ∀ a, (a ≠ 5009 ∧ a ≠ 4004 ∧ (a < 5005 ∨ 5008 < a)) → σ a = σ a := fun _ _ => rfl
  show G X w 1 0 [(0, .ref (w.1 0))] [] σ
  refine g_aload_n h dX12_closes_0 0 rfl ?_
  refine g_geti h dX12_closes_1 gX12_196 sc_0 rfl ?_
  refine g_top (y := (nI (kr (txK x L e)))) (by first | exact ht5005_σ | assumption) ?_
  refine g_iconst h dX12_closes_4 (by decide) ?_
  refine g_icmpN_ne h dX12_closes_5 (by omega) (by omega) (fun c5 => ?_) (fun c5 => ?_)
  ·
    have hK9 : ¬ txK x L e = 3 := fun z => c5 (kr_i.2.2.2.2.1.mpr z)
    have hF : tf9 (txK x L e) 3 = tff (txK x L e) 2 := tf9_n hK9
    have hC : (cl9 x L e) = e := if_neg hK9
    refine g_aload_n h dX12_closes_15 0 rfl ?_
    refine g_iconst h dX12_closes_16 (by decide) ?_
    refine g_cvi (rest := []) h (r_fails hW 2 e L x (by omega) (by first | exact ht5005_σ | assumption | fail) (by first | exact ht5006_σ | assumption | fail) (by first | exact ht5009_σ | assumption | fail)) lX12_fails mX12_226 (Nat.lt_of_lt_of_le (by decide) (Nat.le_refl _)) (by decide) sc_0 rfl rfl rfl rfl dX12_closes_17 (fun σ_1 eσ_1 => ?_)
    obtain ⟨eσ_1_a, eσ_1_b, eσ_1_c⟩ := eσ_1
    have eσ_1_a : σ_1 5009 = (nI (tff (txK x L e) 2)) := eσ_1_a
    have eσ_1_b : σ_1 4004 = (nI (txS x L e)) := eσ_1_b
    have eσ_1_c : ∀ a, (a ≠ 5009 ∧ a ≠ 4004) → σ_1 a = σ a := eσ_1_c
    have ht5004_σ_1 : σ_1 5004 = (nI L) := by rw [eσ_1_c _ (by first | omega | (simp only [vb] at *; omega))]; first | exact ht5004_σ | assumption
    have ht5005_σ_1 : σ_1 5005 = (nI (kr (txK x L e))) := by rw [eσ_1_c _ (by first | omega | (simp only [vb] at *; omega))]; first | exact ht5005_σ | assumption
    have ht5006_σ_1 : σ_1 5006 = (nI (txS x L e)) := by rw [eσ_1_c _ (by first | omega | (simp only [vb] at *; omega))]; first | exact ht5006_σ | assumption
    have ht5007_σ_1 : σ_1 5007 = (nI (txE x L e)) := by rw [eσ_1_c _ (by first | omega | (simp only [vb] at *; omega))]; first | exact ht5007_σ | assumption
    have ht5009_σ_1 : σ_1 5009 = (nI (tff (txK x L e) 2)) := eσ_1_a
    have ht4004_σ_1 : σ_1 4004 = (nI (txS x L e)) := eσ_1_b
    have hcTX_σ_1 : TX 5600 σ_1 L x := by exact TX.fr hcTX_σ (fun a ha hb => eσ_1_c a (by first | omega | (simp only [vb] at *; omega)))
    have hcVL_σ_1 : VL σ_1 x L e := by exact VL.fr hcVL_σ (eσ_1_c _ (by first | omega | (simp only [vb] at *; omega)))
    have hcFR_σ_1 : ∀ a, (a ≠ 5009 ∧ a ≠ 4004 ∧ (a < 5005 ∨ 5008 < a)) → σ_1 a = σ a := by intro a ha; exact Eq.trans (b := σ a) (eσ_1_c a (by first | omega | (simp only [vb] at *; omega))) (hcFR_σ a ha)
    refine g_top (y := nI 0) rfl ?_
    exact g_zret h hQ dX12_closes_20 (show narrow .boolean (.int (b2i false)) = .int (b2i false) from narrow_b2i _) (congrArg (fun z => some (Value.int (b2i z))) (show (decide (tf9 (txK x L e) 3 = 0)) = false by rw [hF]; first | rfl | exact decide_eq_true rfl | exact decide_eq_false (tff_0 (by decide)) | decide)) (by exact ⟨(by first | exact ht5004_σ_1 | assumption | fail), (by rw [hC]; exact ht5005_σ_1), (by rw [hC]; exact ht5006_σ_1), (by rw [hC]; exact ht5007_σ_1), (by rw [hF]; exact ht5009_σ_1), (by first | (rw [if_pos hF]; exact ht4004_σ_1) | (rw [if_neg (by rw [hF]; exact tff_0 (by decide)), hC]; exact ht4004_σ_1) | fail), (by first | exact hcTX_σ_1 | assumption | fail), (by rw [hC]; exact hcVL_σ_1), (by exact hcFR_σ_1)⟩)
  ·
    have hK9 : txK x L e = 3 := kr_i.2.2.2.2.1.mp c5
    have hF : tf9 (txK x L e) 3 = 0 := tf9_y hK9
    have hC : (cl9 x L e) = txE x L e := if_pos hK9
    refine g_aload_n h dX12_closes_8 0 rfl ?_
    refine g_cvi (rest := []) h (r_takes hW (txE x L e) L x (by first | omega | assumption | fail) (by first | omega | assumption | fail) (by first | exact ht5004_σ | assumption | fail) (by first | exact ht5007_σ | assumption | fail) (by first | exact hcTX_σ | assumption | fail)) lX12_takes mX12_232 (Nat.lt_of_lt_of_le (by decide) (Nat.le_refl _)) (by decide) sc_0 rfl rfl rfl rfl dX12_closes_9 (fun σ_2 eσ_2 => ?_)
    obtain ⟨eσ_2_a, eσ_2_b, eσ_2_c, eσ_2_d, eσ_2_e, eσ_2_f, eσ_2_g⟩ := eσ_2
    have eσ_2_a : σ_2 5004 = (nI L) := eσ_2_a
    have eσ_2_b : σ_2 5005 = (nI (kr (txK x L (txE x L e)))) := eσ_2_b
    have eσ_2_c : σ_2 5006 = (nI (txS x L (txE x L e))) := eσ_2_c
    have eσ_2_d : σ_2 5007 = (nI (txE x L (txE x L e))) := eσ_2_d
    have eσ_2_e : TX 5600 σ_2 L x := eσ_2_e
    have eσ_2_f : VL σ_2 x L (txE x L e) := eσ_2_f
    have eσ_2_g : ∀ a, (a < 5005 ∨ 5008 < a) → σ_2 a = σ a := eσ_2_g
    have ht5009_σ_2 : σ_2 5009 = (nI 0) := by rw [eσ_2_g _ (by first | omega | (simp only [vb] at *; omega))]; first | exact ht5009_σ | assumption
    have ht4004_σ_2 : σ_2 4004 = p0 := by rw [eσ_2_g _ (by first | omega | (simp only [vb] at *; omega))]; first | exact ht4004_σ | assumption
    have ht5004_σ_2 : σ_2 5004 = (nI L) := eσ_2_a
    have ht5005_σ_2 : σ_2 5005 = (nI (kr (txK x L (txE x L e)))) := eσ_2_b
    have ht5006_σ_2 : σ_2 5006 = (nI (txS x L (txE x L e))) := eσ_2_c
    have ht5007_σ_2 : σ_2 5007 = (nI (txE x L (txE x L e))) := eσ_2_d
    have hcTX_σ_2 : TX 5600 σ_2 L x := eσ_2_e
    have hcVL_σ_2 : VL σ_2 x L (txE x L e) := eσ_2_f
    have hcFR_σ_2 : ∀ a, (a ≠ 5009 ∧ a ≠ 4004 ∧ (a < 5005 ∨ 5008 < a)) → σ_2 a = σ a := by intro a ha; exact Eq.trans (b := σ a) (eσ_2_g a (by first | omega | (simp only [vb] at *; omega))) (hcFR_σ a ha)
    refine g_top (y := nI 1) rfl ?_
    refine g_goto h dX12_closes_12 ?_
    exact g_zret h hQ dX12_closes_20 (show narrow .boolean (.int (b2i true)) = .int (b2i true) from narrow_b2i _) (congrArg (fun z => some (Value.int (b2i z))) (show (decide (tf9 (txK x L e) 3 = 0)) = true by rw [hF]; first | rfl | exact decide_eq_true rfl | exact decide_eq_false (tff_0 (by decide)) | decide)) (by exact ⟨(by first | exact ht5004_σ_2 | assumption | fail), (by rw [hC]; exact ht5005_σ_2), (by rw [hC]; exact ht5006_σ_2), (by rw [hC]; exact ht5007_σ_2), (by rw [hF]; exact ht5009_σ_2), (by first | (rw [if_pos hF]; exact ht4004_σ_2) | (rw [if_neg (by rw [hF]; exact tff_0 (by decide)), hC]; exact ht4004_σ_2) | fail), (by first | exact hcTX_σ_2 | assumption | fail), (by rw [hC]; exact hcVL_σ_2), (by exact hcFR_σ_2)⟩)

set_option maxRecDepth 100000 in
set_option maxHeartbeats 4000000 in
theorem r_aWill {l : Launch} {w : Wd} (hW : Wi w) {σ : Mem} (e L : Nat) (x : Nat → Nat) (p0 : Int32) (μ : Nat → Int32) (he : e ≤ L) (hL : L ≤ 400) (hv : vw 0 σ = μ) (hI : MI μ) (ht5004_σ : σ 5004 = (nI L)) (ht5005_σ : σ 5005 = (nI (kr (txK x L e)))) (ht5006_σ : σ 5006 = (nI (txS x L e))) (ht5007_σ : σ 5007 = (nI (txE x L e))) (ht5009_σ : σ 5009 = (nI 0)) (ht4004_σ : σ 4004 = p0) (hcTX_σ : TX 5600 σ L x) (hcVL_σ : VL σ x L e) : MC l w qX12_aWill 3 [.ref (w.1 0)] σ (some (.int (b2i (decide ((ar9 x L μ 1 (na9 1) 0 0 e).1 = 0))))) (fun σ' => (vw 0 σ' = pk0 (ar9 x L μ 1 (na9 1) 0 0 e).1 (EF μ 1 (txV x L e) (txV x L (txE x L e)) (txV x L (txE x L (txE x L e)))) μ) ∧ (σ' 5004 = (nI L)) ∧ (σ' 5005 = (nI (kr (txK x L (ar9 x L μ 1 (na9 1) 0 0 e).2)))) ∧ (σ' 5006 = (nI (txS x L (ar9 x L μ 1 (na9 1) 0 0 e).2))) ∧ (σ' 5007 = (nI (txE x L (ar9 x L μ 1 (na9 1) 0 0 e).2))) ∧ (σ' 5009 = (nI ((ar9 x L μ 1 (na9 1) 0 0 e).1))) ∧ (σ' 4004 = (if (ar9 x L μ 1 (na9 1) 0 0 e).1 = 0 then p0 else nI (txS x L (ar9 x L μ 1 (na9 1) 0 0 e).2))) ∧ (TX 5600 σ' L x) ∧ (VL σ' x L (ar9 x L μ 1 (na9 1) 0 0 e).2) ∧ (∀ a, (464 ≤ a ∧ a ≠ 5009 ∧ a ≠ 4004 ∧ (a < 5005 ∨ 5008 < a) ∨ a = 10) → σ' a = σ a)) := by
  refine MC.of hW (by decide +kernel) (Nat.le_of_ble_eq_true rfl) (fun X h hQ hnm => ?_)
  have h : Fx X w cX12_aWill 2 RX12 3 := h
  have hQ : Qx X w (some .boolean) (some (.int (b2i (decide ((ar9 x L μ 1 (na9 1) 0 0 e).1 = 0))))) (fun σ' => (vw 0 σ' = pk0 (ar9 x L μ 1 (na9 1) 0 0 e).1 (EF μ 1 (txV x L e) (txV x L (txE x L e)) (txV x L (txE x L (txE x L e)))) μ) ∧ (σ' 5004 = (nI L)) ∧ (σ' 5005 = (nI (kr (txK x L (ar9 x L μ 1 (na9 1) 0 0 e).2)))) ∧ (σ' 5006 = (nI (txS x L (ar9 x L μ 1 (na9 1) 0 0 e).2))) ∧ (σ' 5007 = (nI (txE x L (ar9 x L μ 1 (na9 1) 0 0 e).2))) ∧ (σ' 5009 = (nI ((ar9 x L μ 1 (na9 1) 0 0 e).1))) ∧ (σ' 4004 = (if (ar9 x L μ 1 (na9 1) 0 0 e).1 = 0 then p0 else nI (txS x L (ar9 x L μ 1 (na9 1) 0 0 e).2))) ∧ (TX 5600 σ' L x) ∧ (VL σ' x L (ar9 x L μ 1 (na9 1) 0 0 e).2) ∧ (∀ a, (464 ≤ a ∧ a ≠ 5009 ∧ a ≠ 4004 ∧ (a < 5005 ∨ 5008 < a) ∨ a = 10) → σ' a = σ a)) := hQ
  have hN8 := mi_8 hI
  have h5 := (kr_i (x := x) (L := L) (e := e)).2.2.2.2.2
  have hb := tx_b (x := x) he
  have hcFR_σ : ∀ a, (464 ≤ a ∧ a ≠ 5009 ∧ a ≠ 4004 ∧ (a < 5005 ∨ 5008 < a) ∨ a = 10) → σ a = σ a := fun _ _ => rfl
  show G X w 2 0 [(0, .ref (w.1 0))] [] σ
  refine g_aload_n h dX12_aWill_0 0 rfl ?_
  refine g_iconstv h dX12_aWill_1 (v := (-1)) (by decide) ?_
  refine g_cvi (rest := []) h (r_isNodeHere hW none e L x p0 μ (by first | exact hv | assumption | fail) (by assumption) (by first | (intro b h9; cases h9; omega) | (intro b h9; cases h9) | fail) (by first | exact ht5005_σ | assumption | fail) (by first | exact ht5006_σ | assumption | fail) (by first | exact ht5009_σ | assumption | fail) (by first | exact ht4004_σ | assumption | fail) (by first | exact hcVL_σ | assumption | fail)) lX12_isNodeHere mX12_241 (Nat.lt_of_lt_of_le (by decide) (Nat.le_refl _)) (by decide) sc_0 rfl rfl rfl rfl dX12_aWill_2 (fun σa eσa => ?_)
  obtain ⟨eσa_a, eσa_b, eσa_c⟩ := eσa
  have eσa_a : σa 5009 = (nI (nh9 μ x L e none)) := eσa_a
  have eσa_b : σa 4004 = (if nh9 μ x L e none = 0 then p0 else nI (txS x L e)) := eσa_b
  have eσa_c : ∀ a, (a ≠ 5009 ∧ a ≠ 4004) → σa a = σ a := eσa_c
  have ht5004_σa : σa 5004 = (nI L) := by rw [eσa_c _ (by first | omega | (simp only [vb] at *; omega))]; first | exact ht5004_σ | assumption
  have ht5005_σa : σa 5005 = (nI (kr (txK x L e))) := by rw [eσa_c _ (by first | omega | (simp only [vb] at *; omega))]; first | exact ht5005_σ | assumption
  have ht5006_σa : σa 5006 = (nI (txS x L e)) := by rw [eσa_c _ (by first | omega | (simp only [vb] at *; omega))]; first | exact ht5006_σ | assumption
  have ht5007_σa : σa 5007 = (nI (txE x L e)) := by rw [eσa_c _ (by first | omega | (simp only [vb] at *; omega))]; first | exact ht5007_σ | assumption
  have ht5009_σa : σa 5009 = (nI (nh9 μ x L e none)) := eσa_a
  have ht4004_σa : σa 4004 = (if nh9 μ x L e none = 0 then p0 else nI (txS x L e)) := eσa_b
  have hcTX_σa : TX 5600 σa L x := by exact TX.fr hcTX_σ (fun a ha hb => eσa_c a (by first | omega | (simp only [vb] at *; omega)))
  have hcVL_σa : VL σa x L e := by exact VL.fr hcVL_σ (eσa_c _ (by first | omega | (simp only [vb] at *; omega)))
  have hcFR_σa : ∀ a, (464 ≤ a ∧ a ≠ 5009 ∧ a ≠ 4004 ∧ (a < 5005 ∨ 5008 < a) ∨ a = 10) → σa a = σ a := by intro a ha; exact Eq.trans (b := σ a) (eσa_c a (by first | omega | (simp only [vb] at *; omega))) (hcFR_σ a ha)
  have hvσa : vw 0 σa = μ := by rw [vw_fr (σ := σ) (fun j _ _ => eσa_c _ (by first | omega | (simp only [vb] at *; omega)))]; first | exact hv | assumption
  refine g_ifB_ne h dX12_aWill_5 (fun c5 => ?_) (fun c5 => ?_)
  ·
    have hn0 : nh9 μ x L e none = 0 := of_decide_eq_true c5
    obtain ⟨hK0, hv0, -⟩ := nh9_0 hn0
    have h0 : af9 x L μ 1 0 0 e = 0 := (nh_af (Or.inl rfl)).trans hn0
    have hb1 := tx_b (x := x) (L := L) (e := txE x L e) hb.2.2
    have ht5009_σa : σa 5009 = (nI 0) := by rw [ht5009_σa, of_decide_eq_true c5]
    have ht4004_σa : σa 4004 = p0 := by rw [ht4004_σa, if_pos (of_decide_eq_true c5)]
    refine g_aload_n h dX12_aWill_10 0 rfl ?_
    refine g_geti h dX12_aWill_11 gX12_205 sc_0 rfl ?_
    refine g_top (y := (nI (txV x L e))) (hcVL_σa hK0) ?_
    refine g_istore_n (L' := [(0, .ref (w.1 0)), (1, .int (nI (txV x L e)))]) h dX12_aWill_14 rfl (by decide) rfl ?_
    refine g_aload_n h dX12_aWill_15 0 rfl ?_
    refine g_cvv (rest := []) h (r_ahead hW (txE x L e) L x (by first | omega | assumption | fail) (by first | omega | assumption | fail) (by first | exact ht5004_σa | assumption | fail) (by first | exact ht5007_σa | assumption | fail) (by first | exact hcTX_σa | assumption | fail)) lX12_ahead mX12_229 (Nat.lt_of_lt_of_le (by decide) (Nat.le_refl _)) (by decide) sc_0 rfl rfl rfl rfl dX12_aWill_16 (fun σ_1 eσ_1 => ?_)
    obtain ⟨eσ_1_a, eσ_1_b, eσ_1_c, eσ_1_d, eσ_1_e, eσ_1_f, eσ_1_g⟩ := eσ_1
    have eσ_1_a : σ_1 5004 = (nI L) := eσ_1_a
    have eσ_1_b : σ_1 5005 = (nI (kr (txK x L (txE x L e)))) := eσ_1_b
    have eσ_1_c : σ_1 5006 = (nI (txS x L (txE x L e))) := eσ_1_c
    have eσ_1_d : σ_1 5007 = (nI (txE x L (txE x L e))) := eσ_1_d
    have eσ_1_e : TX 5600 σ_1 L x := eσ_1_e
    have eσ_1_f : VL σ_1 x L (txE x L e) := eσ_1_f
    have eσ_1_g : ∀ a, (a < 5005 ∨ 5008 < a) → σ_1 a = σa a := eσ_1_g
    have ht5009_σ_1 : σ_1 5009 = (nI 0) := by rw [eσ_1_g _ (by first | omega | (simp only [vb] at *; omega))]; first | exact ht5009_σa | assumption
    have ht4004_σ_1 : σ_1 4004 = p0 := by rw [eσ_1_g _ (by first | omega | (simp only [vb] at *; omega))]; first | exact ht4004_σa | assumption
    have ht5004_σ_1 : σ_1 5004 = (nI L) := eσ_1_a
    have ht5005_σ_1 : σ_1 5005 = (nI (kr (txK x L (txE x L e)))) := eσ_1_b
    have ht5006_σ_1 : σ_1 5006 = (nI (txS x L (txE x L e))) := eσ_1_c
    have ht5007_σ_1 : σ_1 5007 = (nI (txE x L (txE x L e))) := eσ_1_d
    have hcTX_σ_1 : TX 5600 σ_1 L x := eσ_1_e
    have hcVL_σ_1 : VL σ_1 x L (txE x L e) := eσ_1_f
    have hcFR_σ_1 : ∀ a, (464 ≤ a ∧ a ≠ 5009 ∧ a ≠ 4004 ∧ (a < 5005 ∨ 5008 < a) ∨ a = 10) → σ_1 a = σ a := by intro a ha; exact Eq.trans (b := σa a) (eσ_1_g a (by first | omega | (simp only [vb] at *; omega))) (hcFR_σa a ha)
    have hvσ_1 : vw 0 σ_1 = μ := by rw [vw_fr (σ := σa) (fun j _ _ => eσ_1_g _ (by first | omega | (simp only [vb] at *; omega)))]; first | exact hvσa | assumption
    refine g_aload_n h dX12_aWill_19 0 rfl ?_
    refine g_iconst h dX12_aWill_20 (by decide) ?_
    refine g_bipush h dX12_aWill_21 (by decide) ?_
    refine g_cvi (rest := []) h (r_isNumber hW 0 7 (txE x L e) L x p0 (by omega) (by omega) (by first | exact ht5005_σ_1 | assumption | fail) (by first | exact ht5006_σ_1 | assumption | fail) (by first | exact ht5009_σ_1 | assumption | fail) (by first | exact ht4004_σ_1 | assumption | fail) (by first | exact hcVL_σ_1 | assumption | fail)) lX12_isNumber mX12_235 (Nat.lt_of_lt_of_le (by decide) (Nat.le_refl _)) (by decide) sc_0 rfl rfl rfl rfl dX12_aWill_23 (fun σb eσb => ?_)
    obtain ⟨eσb_a, eσb_b, eσb_c⟩ := eσb
    have eσb_a : σb 5009 = (nI (nf9 x L (txE x L e) 0 7)) := eσb_a
    have eσb_b : σb 4004 = (if nf9 x L (txE x L e) 0 7 = 0 then p0 else nI (txS x L (txE x L e))) := eσb_b
    have eσb_c : ∀ a, (a ≠ 5009 ∧ a ≠ 4004) → σb a = σ_1 a := eσb_c
    have ht5004_σb : σb 5004 = (nI L) := by rw [eσb_c _ (by first | omega | (simp only [vb] at *; omega))]; first | exact ht5004_σ_1 | assumption
    have ht5005_σb : σb 5005 = (nI (kr (txK x L (txE x L e)))) := by rw [eσb_c _ (by first | omega | (simp only [vb] at *; omega))]; first | exact ht5005_σ_1 | assumption
    have ht5006_σb : σb 5006 = (nI (txS x L (txE x L e))) := by rw [eσb_c _ (by first | omega | (simp only [vb] at *; omega))]; first | exact ht5006_σ_1 | assumption
    have ht5007_σb : σb 5007 = (nI (txE x L (txE x L e))) := by rw [eσb_c _ (by first | omega | (simp only [vb] at *; omega))]; first | exact ht5007_σ_1 | assumption
    have ht5009_σb : σb 5009 = (nI (nf9 x L (txE x L e) 0 7)) := eσb_a
    have ht4004_σb : σb 4004 = (if nf9 x L (txE x L e) 0 7 = 0 then p0 else nI (txS x L (txE x L e))) := eσb_b
    have hcTX_σb : TX 5600 σb L x := by exact TX.fr hcTX_σ_1 (fun a ha hb => eσb_c a (by first | omega | (simp only [vb] at *; omega)))
    have hcVL_σb : VL σb x L (txE x L e) := by exact VL.fr hcVL_σ_1 (eσb_c _ (by first | omega | (simp only [vb] at *; omega)))
    have hcFR_σb : ∀ a, (464 ≤ a ∧ a ≠ 5009 ∧ a ≠ 4004 ∧ (a < 5005 ∨ 5008 < a) ∨ a = 10) → σb a = σ a := by intro a ha; exact Eq.trans (b := σ_1 a) (eσb_c a (by first | omega | (simp only [vb] at *; omega))) (hcFR_σ_1 a ha)
    have hvσb : vw 0 σb = μ := by rw [vw_fr (σ := σ_1) (fun j _ _ => eσb_c _ (by first | omega | (simp only [vb] at *; omega)))]; first | exact hvσ_1 | assumption
    refine g_ifB_ne h dX12_aWill_26 (fun c26 => ?_) (fun c26 => ?_)
    ·
      have hn1 : nf9 x L (txE x L e) 0 7 = 0 := of_decide_eq_true c26
      have h1 : af9 x L μ 1 1 (txV x L e) (txE x L e) = 0 := (nf_af (fun v => rfl)).trans hn1
      have hK1 := (af9_0 h1).1
      have hw9 := txV_lt hK1
      have hR : ar9 x L μ 1 (na9 1) 0 0 e = (0, txE x L (txE x L e)) := (ar9_y0 h0).trans (ar9_y1 h1)
      have hb2 := tx_b (x := x) (L := L) (e := txE x L (txE x L e)) hb1.2.2
      have ht5009_σb : σb 5009 = (nI 0) := by rw [ht5009_σb, of_decide_eq_true c26]
      have ht4004_σb : σb 4004 = p0 := by rw [ht4004_σb, if_pos (of_decide_eq_true c26)]
      refine g_aload_n h dX12_aWill_31 0 rfl ?_
      refine g_bipush h dX12_aWill_32 (by decide) ?_
      refine g_iload_n h dX12_aWill_34 1 rfl ?_
      refine g_iaddN h dX12_aWill_35  ?_
      refine g_aload_n h dX12_aWill_36 0 rfl ?_
      refine g_geti h dX12_aWill_37 gX12_205 sc_0 rfl ?_
      refine g_top (y := (nI (txV x L (txE x L e)))) (hcVL_σb hK1) ?_
      refine g_cvv (rest := []) h (r_puts hW (16 + txV x L e) (nI (txV x L (txE x L e))) (by omega)) lX12_puts mX12_57 (Nat.lt_of_lt_of_le (by decide) (Nat.le_refl _)) (by decide) sc_0 rfl rfl rfl rfl dX12_aWill_40 (fun σd eσd => ?_)
      have eσd_a : σd = upd σb (0 + (16 + txV x L e)) (nI (txV x L (txE x L e))) := eσd
      have ht5004_σd : σd 5004 = (nI L) := by rw [eσd_a, upd_ne (by first | omega | (simp only [vb] at *; omega))]; first | exact ht5004_σb | assumption
      have ht5005_σd : σd 5005 = (nI (kr (txK x L (txE x L e)))) := by rw [eσd_a, upd_ne (by first | omega | (simp only [vb] at *; omega))]; first | exact ht5005_σb | assumption
      have ht5006_σd : σd 5006 = (nI (txS x L (txE x L e))) := by rw [eσd_a, upd_ne (by first | omega | (simp only [vb] at *; omega))]; first | exact ht5006_σb | assumption
      have ht5007_σd : σd 5007 = (nI (txE x L (txE x L e))) := by rw [eσd_a, upd_ne (by first | omega | (simp only [vb] at *; omega))]; first | exact ht5007_σb | assumption
      have ht5009_σd : σd 5009 = (nI 0) := by rw [eσd_a, upd_ne (by first | omega | (simp only [vb] at *; omega))]; first | exact ht5009_σb | assumption
      have ht4004_σd : σd 4004 = p0 := by rw [eσd_a, upd_ne (by first | omega | (simp only [vb] at *; omega))]; first | exact ht4004_σb | assumption
      have hcTX_σd : TX 5600 σd L x := by rw [eσd_a]; exact TX.fr hcTX_σb (fun a ha hb => upd_ne (by first | omega | (simp only [vb] at *; omega)))
      have hcVL_σd : VL σd x L (txE x L e) := by rw [eσd_a]; exact VL.fr hcVL_σb (upd_ne (by first | omega | (simp only [vb] at *; omega)))
      have hcFR_σd : ∀ a, (464 ≤ a ∧ a ≠ 5009 ∧ a ≠ 4004 ∧ (a < 5005 ∨ 5008 < a) ∨ a = 10) → σd a = σ a := by intro a ha; exact Eq.trans (b := σb a) (by rw [eσd_a, upd_ne (by first | omega | (simp only [vb] at *; omega))]) (hcFR_σb a ha)
      obtain ⟨μd, eμd⟩ : ∃ μd : Nat → Int32, μd = upd μ (16 + txV x L e) (nI (txV x L (txE x L e))) := ⟨_, rfl⟩
      have hvσd : vw 0 σd = μd := by rw [eσd_a, eμd, vw_in (by omega)]; congr 1
      refine g_aload_n h dX12_aWill_43 0 rfl ?_
      refine g_cvi (rest := []) h (r_takes hW (txE x L (txE x L e)) L x (by first | omega | assumption | fail) (by first | omega | assumption | fail) (by first | exact ht5004_σd | assumption | fail) (by first | exact ht5007_σd | assumption | fail) (by first | exact hcTX_σd | assumption | fail)) lX12_takes mX12_232 (Nat.lt_of_lt_of_le (by decide) (Nat.le_refl _)) (by decide) sc_0 rfl rfl rfl rfl dX12_aWill_44 (fun σ_2 eσ_2 => ?_)
      obtain ⟨eσ_2_a, eσ_2_b, eσ_2_c, eσ_2_d, eσ_2_e, eσ_2_f, eσ_2_g⟩ := eσ_2
      have eσ_2_a : σ_2 5004 = (nI L) := eσ_2_a
      have eσ_2_b : σ_2 5005 = (nI (kr (txK x L (txE x L (txE x L e))))) := eσ_2_b
      have eσ_2_c : σ_2 5006 = (nI (txS x L (txE x L (txE x L e)))) := eσ_2_c
      have eσ_2_d : σ_2 5007 = (nI (txE x L (txE x L (txE x L e)))) := eσ_2_d
      have eσ_2_e : TX 5600 σ_2 L x := eσ_2_e
      have eσ_2_f : VL σ_2 x L (txE x L (txE x L e)) := eσ_2_f
      have eσ_2_g : ∀ a, (a < 5005 ∨ 5008 < a) → σ_2 a = σd a := eσ_2_g
      have ht5009_σ_2 : σ_2 5009 = (nI 0) := by rw [eσ_2_g _ (by first | omega | (simp only [vb] at *; omega))]; first | exact ht5009_σd | assumption
      have ht4004_σ_2 : σ_2 4004 = p0 := by rw [eσ_2_g _ (by first | omega | (simp only [vb] at *; omega))]; first | exact ht4004_σd | assumption
      have ht5004_σ_2 : σ_2 5004 = (nI L) := eσ_2_a
      have ht5005_σ_2 : σ_2 5005 = (nI (kr (txK x L (txE x L (txE x L e))))) := eσ_2_b
      have ht5006_σ_2 : σ_2 5006 = (nI (txS x L (txE x L (txE x L e)))) := eσ_2_c
      have ht5007_σ_2 : σ_2 5007 = (nI (txE x L (txE x L (txE x L e)))) := eσ_2_d
      have hcTX_σ_2 : TX 5600 σ_2 L x := eσ_2_e
      have hcVL_σ_2 : VL σ_2 x L (txE x L (txE x L e)) := eσ_2_f
      have hcFR_σ_2 : ∀ a, (464 ≤ a ∧ a ≠ 5009 ∧ a ≠ 4004 ∧ (a < 5005 ∨ 5008 < a) ∨ a = 10) → σ_2 a = σ a := by intro a ha; exact Eq.trans (b := σd a) (eσ_2_g a (by first | omega | (simp only [vb] at *; omega))) (hcFR_σd a ha)
      have hvσ_2 : vw 0 σ_2 = μd := by rw [vw_fr (σ := σd) (fun j _ _ => eσ_2_g _ (by first | omega | (simp only [vb] at *; omega)))]; first | exact hvσd | assumption
      refine g_top (y := nI 1) rfl ?_
      exact g_zret h hQ dX12_aWill_47 (show narrow .boolean (.int (b2i true)) = .int (b2i true) from narrow_b2i _) (congrArg (fun z => some (Value.int (b2i z))) (show (decide ((ar9 x L μ 1 (na9 1) 0 0 e).1 = 0)) = true by rw [hR]; first | rfl | exact decide_eq_true rfl | exact decide_eq_false hf9)) (by exact ⟨(by first | exact pk_yes (by rw [hR]) (by rw [hvσ_2, eμd]; rfl) | exact pk_no (k := (ar9 x L μ 1 (na9 1) 0 0 e).1) rfl (by rw [hR]; exact hf9) hvσ_2 | fail), (by first | exact ht5004_σ_2 | assumption | fail), (by rw [hR]; exact ht5005_σ_2), (by rw [hR]; exact ht5006_σ_2), (by rw [hR]; exact ht5007_σ_2), (by rw [hR]; exact ht5009_σ_2), (by first | (rw [hR]; exact (ht4004_σ_2).trans (if_pos rfl).symm) | (rw [hR]; exact (ht4004_σ_2).trans (if_neg hf9).symm) | (rw [hR]; exact ht4004_σ_2) | fail), (by first | exact hcTX_σ_2 | assumption | fail), (by rw [hR]; exact hcVL_σ_2), (by exact hcFR_σ_2)⟩)
    ·
      have hf9 : nf9 x L (txE x L e) 0 7 ≠ 0 := of_decide_eq_false c26
      have h1 : af9 x L μ 1 1 (txV x L e) (txE x L e) = nf9 x L (txE x L e) 0 7 := nf_af (fun v => rfl)
      have hR : ar9 x L μ 1 (na9 1) 0 0 e = (nf9 x L (txE x L e) 0 7, txE x L e) := (ar9_y0 h0).trans ((ar9_no (by rw [h1]; exact hf9)).trans (by rw [h1]))
      refine g_iconst h dX12_aWill_29 (by decide) ?_
      exact g_zret h hQ dX12_aWill_30 (show narrow .boolean (.int (b2i false)) = .int (b2i false) from narrow_b2i _) (congrArg (fun z => some (Value.int (b2i z))) (show (decide ((ar9 x L μ 1 (na9 1) 0 0 e).1 = 0)) = false by rw [hR]; first | rfl | exact decide_eq_true rfl | exact decide_eq_false hf9)) (by exact ⟨(by first | exact pk_yes (by rw [hR]) (by rw [hvσb, eμd]; rfl) | exact pk_no (k := (ar9 x L μ 1 (na9 1) 0 0 e).1) rfl (by rw [hR]; exact hf9) hvσb | fail), (by first | exact ht5004_σb | assumption | fail), (by rw [hR]; exact ht5005_σb), (by rw [hR]; exact ht5006_σb), (by rw [hR]; exact ht5007_σb), (by rw [hR]; exact ht5009_σb), (by first | (rw [hR]; exact (ht4004_σb).trans (if_pos rfl).symm) | (rw [hR]; exact (ht4004_σb).trans (if_neg hf9).symm) | (rw [hR]; exact ht4004_σb) | fail), (by first | exact hcTX_σb | assumption | fail), (by rw [hR]; exact hcVL_σb), (by exact hcFR_σb)⟩)
  ·
    have hf9 : nh9 μ x L e none ≠ 0 := of_decide_eq_false c5
    have h0 : af9 x L μ 1 0 0 e = nh9 μ x L e none := nh_af (Or.inl rfl)
    have hR : ar9 x L μ 1 (na9 1) 0 0 e = (nh9 μ x L e none, e) := (ar9_no (by rw [h0]; exact hf9)).trans (by rw [h0])
    refine g_iconst h dX12_aWill_8 (by decide) ?_
    exact g_zret h hQ dX12_aWill_9 (show narrow .boolean (.int (b2i false)) = .int (b2i false) from narrow_b2i _) (congrArg (fun z => some (Value.int (b2i z))) (show (decide ((ar9 x L μ 1 (na9 1) 0 0 e).1 = 0)) = false by rw [hR]; first | rfl | exact decide_eq_true rfl | exact decide_eq_false hf9)) (by exact ⟨(by first | exact pk_yes (by rw [hR]) (by rw [hvσa, eμd]; rfl) | exact pk_no (k := (ar9 x L μ 1 (na9 1) 0 0 e).1) rfl (by rw [hR]; exact hf9) hvσa | fail), (by first | exact ht5004_σa | assumption | fail), (by rw [hR]; exact ht5005_σa), (by rw [hR]; exact ht5006_σa), (by rw [hR]; exact ht5007_σa), (by rw [hR]; exact ht5009_σa), (by first | (rw [hR]; exact (ht4004_σa).trans (if_pos rfl).symm) | (rw [hR]; exact (ht4004_σa).trans (if_neg hf9).symm) | (rw [hR]; exact ht4004_σa) | fail), (by first | exact hcTX_σa | assumption | fail), (by rw [hR]; exact hcVL_σa), (by exact hcFR_σa)⟩)

set_option maxRecDepth 100000 in
set_option maxHeartbeats 4000000 in
theorem r_anAir {l : Launch} {w : Wd} (hW : Wi w) {σ : Mem} (both : Bool) (e L : Nat) (x : Nat → Nat) (p0 : Int32) (μ : Nat → Int32) (he : e ≤ L) (hL : L ≤ 400) (hv : vw 0 σ = μ) (hI : MI μ) (ht5004_σ : σ 5004 = (nI L)) (ht5005_σ : σ 5005 = (nI (kr (txK x L e)))) (ht5006_σ : σ 5006 = (nI (txS x L e))) (ht5007_σ : σ 5007 = (nI (txE x L e))) (ht5009_σ : σ 5009 = (nI 0)) (ht4004_σ : σ 4004 = p0) (hcTX_σ : TX 5600 σ L x) (hcVL_σ : VL σ x L e) : MC l w qX12_anAir 3 [.ref (w.1 0), .int (b2i both)] σ (some (.int (b2i (decide ((ar9 x L μ (kb both) (na9 (kb both)) 0 0 e).1 = 0))))) (fun σ' => (vw 0 σ' = pk0 (ar9 x L μ (kb both) (na9 (kb both)) 0 0 e).1 (EF μ (kb both) (txV x L e) (txV x L (txE x L e)) (txV x L (txE x L (txE x L e)))) μ) ∧ (σ' 5004 = (nI L)) ∧ (σ' 5005 = (nI (kr (txK x L (ar9 x L μ (kb both) (na9 (kb both)) 0 0 e).2)))) ∧ (σ' 5006 = (nI (txS x L (ar9 x L μ (kb both) (na9 (kb both)) 0 0 e).2))) ∧ (σ' 5007 = (nI (txE x L (ar9 x L μ (kb both) (na9 (kb both)) 0 0 e).2))) ∧ (σ' 5009 = (nI ((ar9 x L μ (kb both) (na9 (kb both)) 0 0 e).1))) ∧ (σ' 4004 = (if (ar9 x L μ (kb both) (na9 (kb both)) 0 0 e).1 = 0 then p0 else nI (txS x L (ar9 x L μ (kb both) (na9 (kb both)) 0 0 e).2))) ∧ (TX 5600 σ' L x) ∧ (VL σ' x L (ar9 x L μ (kb both) (na9 (kb both)) 0 0 e).2) ∧ (∀ a, (464 ≤ a ∧ a ≠ 5009 ∧ a ≠ 4004 ∧ (a < 5005 ∨ 5008 < a) ∨ a = 10) → σ' a = σ a)) := by
  refine MC.of hW (by decide +kernel) (Nat.le_of_ble_eq_true rfl) (fun X h hQ hnm => ?_)
  have h : Fx X w cX12_anAir 3 RX12 3 := h
  have hQ : Qx X w (some .boolean) (some (.int (b2i (decide ((ar9 x L μ (kb both) (na9 (kb both)) 0 0 e).1 = 0))))) (fun σ' => (vw 0 σ' = pk0 (ar9 x L μ (kb both) (na9 (kb both)) 0 0 e).1 (EF μ (kb both) (txV x L e) (txV x L (txE x L e)) (txV x L (txE x L (txE x L e)))) μ) ∧ (σ' 5004 = (nI L)) ∧ (σ' 5005 = (nI (kr (txK x L (ar9 x L μ (kb both) (na9 (kb both)) 0 0 e).2)))) ∧ (σ' 5006 = (nI (txS x L (ar9 x L μ (kb both) (na9 (kb both)) 0 0 e).2))) ∧ (σ' 5007 = (nI (txE x L (ar9 x L μ (kb both) (na9 (kb both)) 0 0 e).2))) ∧ (σ' 5009 = (nI ((ar9 x L μ (kb both) (na9 (kb both)) 0 0 e).1))) ∧ (σ' 4004 = (if (ar9 x L μ (kb both) (na9 (kb both)) 0 0 e).1 = 0 then p0 else nI (txS x L (ar9 x L μ (kb both) (na9 (kb both)) 0 0 e).2))) ∧ (TX 5600 σ' L x) ∧ (VL σ' x L (ar9 x L μ (kb both) (na9 (kb both)) 0 0 e).2) ∧ (∀ a, (464 ≤ a ∧ a ≠ 5009 ∧ a ≠ 4004 ∧ (a < 5005 ∨ 5008 < a) ∨ a = 10) → σ' a = σ a)) := hQ
  have hN8 := mi_8 hI
  have h5 := (kr_i (x := x) (L := L) (e := e)).2.2.2.2.2
  have hb := tx_b (x := x) he
  have hcFR_σ : ∀ a, (464 ≤ a ∧ a ≠ 5009 ∧ a ≠ 4004 ∧ (a < 5005 ∨ 5008 < a) ∨ a = 10) → σ a = σ a := fun _ _ => rfl
  show G X w 3 0 [(0, .ref (w.1 0)), (1, .int (b2i both))] [] σ
  refine g_aload_n h dX12_anAir_0 0 rfl ?_
  refine g_iconstv h dX12_anAir_1 (v := (-1)) (by decide) ?_
  refine g_cvi (rest := []) h (r_isNodeHere hW none e L x p0 μ (by first | exact hv | assumption | fail) (by assumption) (by first | (intro b h9; cases h9; omega) | (intro b h9; cases h9) | fail) (by first | exact ht5005_σ | assumption | fail) (by first | exact ht5006_σ | assumption | fail) (by first | exact ht5009_σ | assumption | fail) (by first | exact ht4004_σ | assumption | fail) (by first | exact hcVL_σ | assumption | fail)) lX12_isNodeHere mX12_241 (Nat.lt_of_lt_of_le (by decide) (Nat.le_refl _)) (by decide) sc_0 rfl rfl rfl rfl dX12_anAir_2 (fun σa eσa => ?_)
  obtain ⟨eσa_a, eσa_b, eσa_c⟩ := eσa
  have eσa_a : σa 5009 = (nI (nh9 μ x L e none)) := eσa_a
  have eσa_b : σa 4004 = (if nh9 μ x L e none = 0 then p0 else nI (txS x L e)) := eσa_b
  have eσa_c : ∀ a, (a ≠ 5009 ∧ a ≠ 4004) → σa a = σ a := eσa_c
  have ht5004_σa : σa 5004 = (nI L) := by rw [eσa_c _ (by first | omega | (simp only [vb] at *; omega))]; first | exact ht5004_σ | assumption
  have ht5005_σa : σa 5005 = (nI (kr (txK x L e))) := by rw [eσa_c _ (by first | omega | (simp only [vb] at *; omega))]; first | exact ht5005_σ | assumption
  have ht5006_σa : σa 5006 = (nI (txS x L e)) := by rw [eσa_c _ (by first | omega | (simp only [vb] at *; omega))]; first | exact ht5006_σ | assumption
  have ht5007_σa : σa 5007 = (nI (txE x L e)) := by rw [eσa_c _ (by first | omega | (simp only [vb] at *; omega))]; first | exact ht5007_σ | assumption
  have ht5009_σa : σa 5009 = (nI (nh9 μ x L e none)) := eσa_a
  have ht4004_σa : σa 4004 = (if nh9 μ x L e none = 0 then p0 else nI (txS x L e)) := eσa_b
  have hcTX_σa : TX 5600 σa L x := by exact TX.fr hcTX_σ (fun a ha hb => eσa_c a (by first | omega | (simp only [vb] at *; omega)))
  have hcVL_σa : VL σa x L e := by exact VL.fr hcVL_σ (eσa_c _ (by first | omega | (simp only [vb] at *; omega)))
  have hcFR_σa : ∀ a, (464 ≤ a ∧ a ≠ 5009 ∧ a ≠ 4004 ∧ (a < 5005 ∨ 5008 < a) ∨ a = 10) → σa a = σ a := by intro a ha; exact Eq.trans (b := σ a) (eσa_c a (by first | omega | (simp only [vb] at *; omega))) (hcFR_σ a ha)
  have hvσa : vw 0 σa = μ := by rw [vw_fr (σ := σ) (fun j _ _ => eσa_c _ (by first | omega | (simp only [vb] at *; omega)))]; first | exact hv | assumption
  refine g_ifB_ne h dX12_anAir_5 (fun c5 => ?_) (fun c5 => ?_)
  ·
    have hn0 : nh9 μ x L e none = 0 := of_decide_eq_true c5
    obtain ⟨hK0, hv0, -⟩ := nh9_0 hn0
    have h0 : af9 x L μ (kb both) 0 0 e = 0 := (nh_af (by have := kb_i both; omega)).trans hn0
    have hna : na9 (kb both) = 2 := by cases both <;> rfl
    have hb1 := tx_b (x := x) (L := L) (e := txE x L e) hb.2.2
    have ht5009_σa : σa 5009 = (nI 0) := by rw [ht5009_σa, of_decide_eq_true c5]
    have ht4004_σa : σa 4004 = p0 := by rw [ht4004_σa, if_pos (of_decide_eq_true c5)]
    refine g_aload_n h dX12_anAir_10 0 rfl ?_
    refine g_geti h dX12_anAir_11 gX12_205 sc_0 rfl ?_
    refine g_top (y := (nI (txV x L e))) (hcVL_σa hK0) ?_
    refine g_istore_n (L' := [(0, .ref (w.1 0)), (1, .int (b2i both)), (2, .int (nI (txV x L e)))]) h dX12_anAir_14 rfl (by decide) rfl ?_
    refine g_aload_n h dX12_anAir_15 0 rfl ?_
    refine g_cvv (rest := []) h (r_ahead hW (txE x L e) L x (by first | omega | assumption | fail) (by first | omega | assumption | fail) (by first | exact ht5004_σa | assumption | fail) (by first | exact ht5007_σa | assumption | fail) (by first | exact hcTX_σa | assumption | fail)) lX12_ahead mX12_229 (Nat.lt_of_lt_of_le (by decide) (Nat.le_refl _)) (by decide) sc_0 rfl rfl rfl rfl dX12_anAir_16 (fun σ_1 eσ_1 => ?_)
    obtain ⟨eσ_1_a, eσ_1_b, eσ_1_c, eσ_1_d, eσ_1_e, eσ_1_f, eσ_1_g⟩ := eσ_1
    have eσ_1_a : σ_1 5004 = (nI L) := eσ_1_a
    have eσ_1_b : σ_1 5005 = (nI (kr (txK x L (txE x L e)))) := eσ_1_b
    have eσ_1_c : σ_1 5006 = (nI (txS x L (txE x L e))) := eσ_1_c
    have eσ_1_d : σ_1 5007 = (nI (txE x L (txE x L e))) := eσ_1_d
    have eσ_1_e : TX 5600 σ_1 L x := eσ_1_e
    have eσ_1_f : VL σ_1 x L (txE x L e) := eσ_1_f
    have eσ_1_g : ∀ a, (a < 5005 ∨ 5008 < a) → σ_1 a = σa a := eσ_1_g
    have ht5009_σ_1 : σ_1 5009 = (nI 0) := by rw [eσ_1_g _ (by first | omega | (simp only [vb] at *; omega))]; first | exact ht5009_σa | assumption
    have ht4004_σ_1 : σ_1 4004 = p0 := by rw [eσ_1_g _ (by first | omega | (simp only [vb] at *; omega))]; first | exact ht4004_σa | assumption
    have ht5004_σ_1 : σ_1 5004 = (nI L) := eσ_1_a
    have ht5005_σ_1 : σ_1 5005 = (nI (kr (txK x L (txE x L e)))) := eσ_1_b
    have ht5006_σ_1 : σ_1 5006 = (nI (txS x L (txE x L e))) := eσ_1_c
    have ht5007_σ_1 : σ_1 5007 = (nI (txE x L (txE x L e))) := eσ_1_d
    have hcTX_σ_1 : TX 5600 σ_1 L x := eσ_1_e
    have hcVL_σ_1 : VL σ_1 x L (txE x L e) := eσ_1_f
    have hcFR_σ_1 : ∀ a, (464 ≤ a ∧ a ≠ 5009 ∧ a ≠ 4004 ∧ (a < 5005 ∨ 5008 < a) ∨ a = 10) → σ_1 a = σ a := by intro a ha; exact Eq.trans (b := σa a) (eσ_1_g a (by first | omega | (simp only [vb] at *; omega))) (hcFR_σa a ha)
    have hvσ_1 : vw 0 σ_1 = μ := by rw [vw_fr (σ := σa) (fun j _ _ => eσ_1_g _ (by first | omega | (simp only [vb] at *; omega)))]; first | exact hvσa | assumption
    refine g_aload_n h dX12_anAir_19 0 rfl ?_
    refine g_iload_n h dX12_anAir_20 2 rfl ?_
    refine g_cvi (rest := []) h (r_isNodeHere hW (some (txV x L e)) (txE x L e) L x p0 μ (by first | exact hvσ_1 | assumption | fail) (by assumption) (by first | (intro b h9; cases h9; omega) | (intro b h9; cases h9) | fail) (by first | exact ht5005_σ_1 | assumption | fail) (by first | exact ht5006_σ_1 | assumption | fail) (by first | exact ht5009_σ_1 | assumption | fail) (by first | exact ht4004_σ_1 | assumption | fail) (by first | exact hcVL_σ_1 | assumption | fail)) lX12_isNodeHere mX12_241 (Nat.lt_of_lt_of_le (by decide) (Nat.le_refl _)) (by decide) sc_0 rfl rfl rfl rfl dX12_anAir_21 (fun σb eσb => ?_)
    obtain ⟨eσb_a, eσb_b, eσb_c⟩ := eσb
    have eσb_a : σb 5009 = (nI (nh9 μ x L (txE x L e) (some (txV x L e)))) := eσb_a
    have eσb_b : σb 4004 = (if nh9 μ x L (txE x L e) (some (txV x L e)) = 0 then p0 else nI (txS x L (txE x L e))) := eσb_b
    have eσb_c : ∀ a, (a ≠ 5009 ∧ a ≠ 4004) → σb a = σ_1 a := eσb_c
    have ht5004_σb : σb 5004 = (nI L) := by rw [eσb_c _ (by first | omega | (simp only [vb] at *; omega))]; first | exact ht5004_σ_1 | assumption
    have ht5005_σb : σb 5005 = (nI (kr (txK x L (txE x L e)))) := by rw [eσb_c _ (by first | omega | (simp only [vb] at *; omega))]; first | exact ht5005_σ_1 | assumption
    have ht5006_σb : σb 5006 = (nI (txS x L (txE x L e))) := by rw [eσb_c _ (by first | omega | (simp only [vb] at *; omega))]; first | exact ht5006_σ_1 | assumption
    have ht5007_σb : σb 5007 = (nI (txE x L (txE x L e))) := by rw [eσb_c _ (by first | omega | (simp only [vb] at *; omega))]; first | exact ht5007_σ_1 | assumption
    have ht5009_σb : σb 5009 = (nI (nh9 μ x L (txE x L e) (some (txV x L e)))) := eσb_a
    have ht4004_σb : σb 4004 = (if nh9 μ x L (txE x L e) (some (txV x L e)) = 0 then p0 else nI (txS x L (txE x L e))) := eσb_b
    have hcTX_σb : TX 5600 σb L x := by exact TX.fr hcTX_σ_1 (fun a ha hb => eσb_c a (by first | omega | (simp only [vb] at *; omega)))
    have hcVL_σb : VL σb x L (txE x L e) := by exact VL.fr hcVL_σ_1 (eσb_c _ (by first | omega | (simp only [vb] at *; omega)))
    have hcFR_σb : ∀ a, (464 ≤ a ∧ a ≠ 5009 ∧ a ≠ 4004 ∧ (a < 5005 ∨ 5008 < a) ∨ a = 10) → σb a = σ a := by intro a ha; exact Eq.trans (b := σ_1 a) (eσb_c a (by first | omega | (simp only [vb] at *; omega))) (hcFR_σ_1 a ha)
    have hvσb : vw 0 σb = μ := by rw [vw_fr (σ := σ_1) (fun j _ _ => eσb_c _ (by first | omega | (simp only [vb] at *; omega)))]; first | exact hvσ_1 | assumption
    refine g_ifB_ne h dX12_anAir_24 (fun c24 => ?_) (fun c24 => ?_)
    ·
      have hn1 : nh9 μ x L (txE x L e) (some (txV x L e)) = 0 := of_decide_eq_true c24
      obtain ⟨hK1, hv1, hne⟩ := nh9_0 hn1
      have hne1 : txV x L e ≠ txV x L (txE x L e) := fun q => hne (by rw [q])
      have h1 : af9 x L μ (kb both) 1 (txV x L e) (txE x L e) = 0 := (nh_af1 (by have := kb_i both; omega)).trans hn1
      have hR : ar9 x L μ (kb both) (na9 (kb both)) 0 0 e = (0, txE x L (txE x L e)) := by rw [hna]; exact (ar9_y0 h0).trans (ar9_y1 h1)
      have hb2 := tx_b (x := x) (L := L) (e := txE x L (txE x L e)) hb1.2.2
      have ht5009_σb : σb 5009 = (nI 0) := by rw [ht5009_σb, of_decide_eq_true c24]
      have ht4004_σb : σb 4004 = p0 := by rw [ht4004_σb, if_pos (of_decide_eq_true c24)]
      refine g_aload_n h dX12_anAir_29 0 rfl ?_
      refine g_bipush h dX12_anAir_30 (by decide) ?_
      refine g_aload_n h dX12_anAir_32 0 rfl ?_
      refine g_geti h dX12_anAir_33 gX12_205 sc_0 rfl ?_
      refine g_top (y := (nI (txV x L (txE x L e)))) (hcVL_σb hK1) ?_
      refine g_iaddN h dX12_anAir_36  ?_
      refine g_aload_n h dX12_anAir_37 0 rfl ?_
      refine g_bipush h dX12_anAir_38 (by decide) ?_
      refine g_aload_n h dX12_anAir_40 0 rfl ?_
      refine g_geti h dX12_anAir_41 gX12_205 sc_0 rfl ?_
      refine g_top (y := (nI (txV x L (txE x L e)))) (hcVL_σb hK1) ?_
      refine g_iaddN h dX12_anAir_44  ?_
      refine g_cvpi (rest := [.int (nI (24 + txV x L (txE x L e))), .ref (w.1 0)]) h (r_of hW (24 + txV x L (txE x L e)) μ (by assumption) (by omega)) lX12_of mX12_61 (Nat.lt_of_lt_of_le (by decide) (Nat.le_refl _)) (by decide) sc_0 rfl rfl rfl rfl dX12_anAir_45 ?_
      refine g_iconst h dX12_anAir_48 (by decide) ?_
      refine g_iload_n h dX12_anAir_49 2 rfl ?_
      refine g_ishl h dX12_anAir_50  ?_
      refine g_top (y := bt1 (txV x L e)) rfl ?_
      refine g_ior h dX12_anAir_51  ?_
      refine g_top (y := (wth (μ (24 + txV x L (txE x L e))) (txV x L e) true)) rfl ?_
      refine g_cvv (rest := []) h (r_puts hW (24 + txV x L (txE x L e)) (wth (μ (24 + txV x L (txE x L e))) (txV x L e) true) (by omega)) lX12_puts mX12_57 (Nat.lt_of_lt_of_le (by decide) (Nat.le_refl _)) (by decide) sc_0 rfl rfl rfl rfl dX12_anAir_52 (fun σd eσd => ?_)
      have eσd_a : σd = upd σb (0 + (24 + txV x L (txE x L e))) (wth (μ (24 + txV x L (txE x L e))) (txV x L e) true) := eσd
      have ht5004_σd : σd 5004 = (nI L) := by rw [eσd_a, upd_ne (by first | omega | (simp only [vb] at *; omega))]; first | exact ht5004_σb | assumption
      have ht5005_σd : σd 5005 = (nI (kr (txK x L (txE x L e)))) := by rw [eσd_a, upd_ne (by first | omega | (simp only [vb] at *; omega))]; first | exact ht5005_σb | assumption
      have ht5006_σd : σd 5006 = (nI (txS x L (txE x L e))) := by rw [eσd_a, upd_ne (by first | omega | (simp only [vb] at *; omega))]; first | exact ht5006_σb | assumption
      have ht5007_σd : σd 5007 = (nI (txE x L (txE x L e))) := by rw [eσd_a, upd_ne (by first | omega | (simp only [vb] at *; omega))]; first | exact ht5007_σb | assumption
      have ht5009_σd : σd 5009 = (nI 0) := by rw [eσd_a, upd_ne (by first | omega | (simp only [vb] at *; omega))]; first | exact ht5009_σb | assumption
      have ht4004_σd : σd 4004 = p0 := by rw [eσd_a, upd_ne (by first | omega | (simp only [vb] at *; omega))]; first | exact ht4004_σb | assumption
      have hcTX_σd : TX 5600 σd L x := by rw [eσd_a]; exact TX.fr hcTX_σb (fun a ha hb => upd_ne (by first | omega | (simp only [vb] at *; omega)))
      have hcVL_σd : VL σd x L (txE x L e) := by rw [eσd_a]; exact VL.fr hcVL_σb (upd_ne (by first | omega | (simp only [vb] at *; omega)))
      have hcFR_σd : ∀ a, (464 ≤ a ∧ a ≠ 5009 ∧ a ≠ 4004 ∧ (a < 5005 ∨ 5008 < a) ∨ a = 10) → σd a = σ a := by intro a ha; exact Eq.trans (b := σb a) (by rw [eσd_a, upd_ne (by first | omega | (simp only [vb] at *; omega))]) (hcFR_σb a ha)
      obtain ⟨μd, eμd⟩ : ∃ μd : Nat → Int32, μd = upd μ (24 + txV x L (txE x L e)) (wth (μ (24 + txV x L (txE x L e))) (txV x L e) true) := ⟨_, rfl⟩
      have hvσd : vw 0 σd = μd := by rw [eσd_a, eμd, vw_in (by omega)]; congr 1
      refine g_iload_n h dX12_anAir_55 1 rfl ?_
      refine g_ifB_eq h dX12_anAir_56 (fun c56 => ?_) (fun c56 => ?_)
      ·
        refine g_aload_n h dX12_anAir_82 0 rfl ?_
        refine g_cvi (rest := []) h (r_takes hW (txE x L (txE x L e)) L x (by first | omega | assumption | fail) (by first | omega | assumption | fail) (by first | exact ht5004_σd | assumption | fail) (by first | exact ht5007_σd | assumption | fail) (by first | exact hcTX_σd | assumption | fail)) lX12_takes mX12_232 (Nat.lt_of_lt_of_le (by decide) (Nat.le_refl _)) (by decide) sc_0 rfl rfl rfl rfl dX12_anAir_83 (fun σ_2 eσ_2 => ?_)
        obtain ⟨eσ_2_a, eσ_2_b, eσ_2_c, eσ_2_d, eσ_2_e, eσ_2_f, eσ_2_g⟩ := eσ_2
        have eσ_2_a : σ_2 5004 = (nI L) := eσ_2_a
        have eσ_2_b : σ_2 5005 = (nI (kr (txK x L (txE x L (txE x L e))))) := eσ_2_b
        have eσ_2_c : σ_2 5006 = (nI (txS x L (txE x L (txE x L e)))) := eσ_2_c
        have eσ_2_d : σ_2 5007 = (nI (txE x L (txE x L (txE x L e)))) := eσ_2_d
        have eσ_2_e : TX 5600 σ_2 L x := eσ_2_e
        have eσ_2_f : VL σ_2 x L (txE x L (txE x L e)) := eσ_2_f
        have eσ_2_g : ∀ a, (a < 5005 ∨ 5008 < a) → σ_2 a = σd a := eσ_2_g
        have ht5009_σ_2 : σ_2 5009 = (nI 0) := by rw [eσ_2_g _ (by first | omega | (simp only [vb] at *; omega))]; first | exact ht5009_σd | assumption
        have ht4004_σ_2 : σ_2 4004 = p0 := by rw [eσ_2_g _ (by first | omega | (simp only [vb] at *; omega))]; first | exact ht4004_σd | assumption
        have ht5004_σ_2 : σ_2 5004 = (nI L) := eσ_2_a
        have ht5005_σ_2 : σ_2 5005 = (nI (kr (txK x L (txE x L (txE x L e))))) := eσ_2_b
        have ht5006_σ_2 : σ_2 5006 = (nI (txS x L (txE x L (txE x L e)))) := eσ_2_c
        have ht5007_σ_2 : σ_2 5007 = (nI (txE x L (txE x L (txE x L e)))) := eσ_2_d
        have hcTX_σ_2 : TX 5600 σ_2 L x := eσ_2_e
        have hcVL_σ_2 : VL σ_2 x L (txE x L (txE x L e)) := eσ_2_f
        have hcFR_σ_2 : ∀ a, (464 ≤ a ∧ a ≠ 5009 ∧ a ≠ 4004 ∧ (a < 5005 ∨ 5008 < a) ∨ a = 10) → σ_2 a = σ a := by intro a ha; exact Eq.trans (b := σd a) (eσ_2_g a (by first | omega | (simp only [vb] at *; omega))) (hcFR_σd a ha)
        have hvσ_2 : vw 0 σ_2 = μd := by rw [vw_fr (σ := σd) (fun j _ _ => eσ_2_g _ (by first | omega | (simp only [vb] at *; omega)))]; first | exact hvσd | assumption
        refine g_top (y := nI 1) rfl ?_
        exact g_zret h hQ dX12_anAir_86 (show narrow .boolean (.int (b2i true)) = .int (b2i true) from narrow_b2i _) (congrArg (fun z => some (Value.int (b2i z))) (show (decide ((ar9 x L μ (kb both) (na9 (kb both)) 0 0 e).1 = 0)) = true by rw [hR]; first | rfl | exact decide_eq_true rfl | exact decide_eq_false hf9)) (by exact ⟨(by first | exact pk_yes (by rw [hR]) (by first | (rw [hvσ_2, eμf, eμd, c56, upd_com (by omega)]; rfl) | (rw [hvσ_2, eμd, c56]; rfl)) | exact pk_no (k := (ar9 x L μ (kb both) (na9 (kb both)) 0 0 e).1) rfl (by rw [hR]; exact hf9) hvσ_2 | fail), (by first | exact ht5004_σ_2 | assumption | fail), (by rw [hR]; exact ht5005_σ_2), (by rw [hR]; exact ht5006_σ_2), (by rw [hR]; exact ht5007_σ_2), (by rw [hR]; exact ht5009_σ_2), (by first | (rw [hR]; exact (ht4004_σ_2).trans (if_pos rfl).symm) | (rw [hR]; exact (ht4004_σ_2).trans (if_neg hf9).symm) | (rw [hR]; exact ht4004_σ_2) | fail), (by first | exact hcTX_σ_2 | assumption | fail), (by rw [hR]; exact hcVL_σ_2), (by exact hcFR_σ_2)⟩)
      ·
        refine g_aload_n h dX12_anAir_59 0 rfl ?_
        refine g_bipush h dX12_anAir_60 (by decide) ?_
        refine g_iload_n h dX12_anAir_62 2 rfl ?_
        refine g_iaddN h dX12_anAir_63  ?_
        refine g_aload_n h dX12_anAir_64 0 rfl ?_
        refine g_bipush h dX12_anAir_65 (by decide) ?_
        refine g_iload_n h dX12_anAir_67 2 rfl ?_
        refine g_iaddN h dX12_anAir_68  ?_
        refine g_cvpi (rest := [.int (nI (24 + txV x L e)), .ref (w.1 0)]) h (r_of hW (24 + txV x L e) μd (by assumption) (by omega)) lX12_of mX12_61 (Nat.lt_of_lt_of_le (by decide) (Nat.le_refl _)) (by decide) sc_0 rfl rfl rfl rfl dX12_anAir_69 ?_
        refine g_top (y := (μ (24 + txV x L e))) (by rw [eμd, upd_ne (by omega)]) ?_
        refine g_iconst h dX12_anAir_72 (by decide) ?_
        refine g_aload_n h dX12_anAir_73 0 rfl ?_
        refine g_geti h dX12_anAir_74 gX12_205 sc_0 rfl ?_
        refine g_top (y := (nI (txV x L (txE x L e)))) (hcVL_σd hK1) ?_
        refine g_ishl h dX12_anAir_77  ?_
        refine g_top (y := bt1 (txV x L (txE x L e))) rfl ?_
        refine g_ior h dX12_anAir_78  ?_
        refine g_top (y := (wth (μ (24 + txV x L e)) (txV x L (txE x L e)) true)) rfl ?_
        refine g_cvv (rest := []) h (r_puts hW (24 + txV x L e) (wth (μ (24 + txV x L e)) (txV x L (txE x L e)) true) (by omega)) lX12_puts mX12_57 (Nat.lt_of_lt_of_le (by decide) (Nat.le_refl _)) (by decide) sc_0 rfl rfl rfl rfl dX12_anAir_79 (fun σf eσf => ?_)
        have eσf_a : σf = upd σd (0 + (24 + txV x L e)) (wth (μ (24 + txV x L e)) (txV x L (txE x L e)) true) := eσf
        have ht5004_σf : σf 5004 = (nI L) := by rw [eσf_a, upd_ne (by first | omega | (simp only [vb] at *; omega))]; first | exact ht5004_σd | assumption
        have ht5005_σf : σf 5005 = (nI (kr (txK x L (txE x L e)))) := by rw [eσf_a, upd_ne (by first | omega | (simp only [vb] at *; omega))]; first | exact ht5005_σd | assumption
        have ht5006_σf : σf 5006 = (nI (txS x L (txE x L e))) := by rw [eσf_a, upd_ne (by first | omega | (simp only [vb] at *; omega))]; first | exact ht5006_σd | assumption
        have ht5007_σf : σf 5007 = (nI (txE x L (txE x L e))) := by rw [eσf_a, upd_ne (by first | omega | (simp only [vb] at *; omega))]; first | exact ht5007_σd | assumption
        have ht5009_σf : σf 5009 = (nI 0) := by rw [eσf_a, upd_ne (by first | omega | (simp only [vb] at *; omega))]; first | exact ht5009_σd | assumption
        have ht4004_σf : σf 4004 = p0 := by rw [eσf_a, upd_ne (by first | omega | (simp only [vb] at *; omega))]; first | exact ht4004_σd | assumption
        have hcTX_σf : TX 5600 σf L x := by rw [eσf_a]; exact TX.fr hcTX_σd (fun a ha hb => upd_ne (by first | omega | (simp only [vb] at *; omega)))
        have hcVL_σf : VL σf x L (txE x L e) := by rw [eσf_a]; exact VL.fr hcVL_σd (upd_ne (by first | omega | (simp only [vb] at *; omega)))
        have hcFR_σf : ∀ a, (464 ≤ a ∧ a ≠ 5009 ∧ a ≠ 4004 ∧ (a < 5005 ∨ 5008 < a) ∨ a = 10) → σf a = σ a := by intro a ha; exact Eq.trans (b := σd a) (by rw [eσf_a, upd_ne (by first | omega | (simp only [vb] at *; omega))]) (hcFR_σd a ha)
        obtain ⟨μf, eμf⟩ : ∃ μf : Nat → Int32, μf = upd μd (24 + txV x L e) (wth (μ (24 + txV x L e)) (txV x L (txE x L e)) true) := ⟨_, rfl⟩
        have hvσf : vw 0 σf = μf := by rw [eσf_a, eμf, vw_in (by omega)]; congr 1
        refine g_aload_n h dX12_anAir_82 0 rfl ?_
        refine g_cvi (rest := []) h (r_takes hW (txE x L (txE x L e)) L x (by first | omega | assumption | fail) (by first | omega | assumption | fail) (by first | exact ht5004_σf | assumption | fail) (by first | exact ht5007_σf | assumption | fail) (by first | exact hcTX_σf | assumption | fail)) lX12_takes mX12_232 (Nat.lt_of_lt_of_le (by decide) (Nat.le_refl _)) (by decide) sc_0 rfl rfl rfl rfl dX12_anAir_83 (fun σ_3 eσ_3 => ?_)
        obtain ⟨eσ_3_a, eσ_3_b, eσ_3_c, eσ_3_d, eσ_3_e, eσ_3_f, eσ_3_g⟩ := eσ_3
        have eσ_3_a : σ_3 5004 = (nI L) := eσ_3_a
        have eσ_3_b : σ_3 5005 = (nI (kr (txK x L (txE x L (txE x L e))))) := eσ_3_b
        have eσ_3_c : σ_3 5006 = (nI (txS x L (txE x L (txE x L e)))) := eσ_3_c
        have eσ_3_d : σ_3 5007 = (nI (txE x L (txE x L (txE x L e)))) := eσ_3_d
        have eσ_3_e : TX 5600 σ_3 L x := eσ_3_e
        have eσ_3_f : VL σ_3 x L (txE x L (txE x L e)) := eσ_3_f
        have eσ_3_g : ∀ a, (a < 5005 ∨ 5008 < a) → σ_3 a = σf a := eσ_3_g
        have ht5009_σ_3 : σ_3 5009 = (nI 0) := by rw [eσ_3_g _ (by first | omega | (simp only [vb] at *; omega))]; first | exact ht5009_σf | assumption
        have ht4004_σ_3 : σ_3 4004 = p0 := by rw [eσ_3_g _ (by first | omega | (simp only [vb] at *; omega))]; first | exact ht4004_σf | assumption
        have ht5004_σ_3 : σ_3 5004 = (nI L) := eσ_3_a
        have ht5005_σ_3 : σ_3 5005 = (nI (kr (txK x L (txE x L (txE x L e))))) := eσ_3_b
        have ht5006_σ_3 : σ_3 5006 = (nI (txS x L (txE x L (txE x L e)))) := eσ_3_c
        have ht5007_σ_3 : σ_3 5007 = (nI (txE x L (txE x L (txE x L e)))) := eσ_3_d
        have hcTX_σ_3 : TX 5600 σ_3 L x := eσ_3_e
        have hcVL_σ_3 : VL σ_3 x L (txE x L (txE x L e)) := eσ_3_f
        have hcFR_σ_3 : ∀ a, (464 ≤ a ∧ a ≠ 5009 ∧ a ≠ 4004 ∧ (a < 5005 ∨ 5008 < a) ∨ a = 10) → σ_3 a = σ a := by intro a ha; exact Eq.trans (b := σf a) (eσ_3_g a (by first | omega | (simp only [vb] at *; omega))) (hcFR_σf a ha)
        have hvσ_3 : vw 0 σ_3 = μf := by rw [vw_fr (σ := σf) (fun j _ _ => eσ_3_g _ (by first | omega | (simp only [vb] at *; omega)))]; first | exact hvσf | assumption
        refine g_top (y := nI 1) rfl ?_
        exact g_zret h hQ dX12_anAir_86 (show narrow .boolean (.int (b2i true)) = .int (b2i true) from narrow_b2i _) (congrArg (fun z => some (Value.int (b2i z))) (show (decide ((ar9 x L μ (kb both) (na9 (kb both)) 0 0 e).1 = 0)) = true by rw [hR]; first | rfl | exact decide_eq_true rfl | exact decide_eq_false hf9)) (by exact ⟨(by first | exact pk_yes (by rw [hR]) (by first | (rw [hvσ_3, eμf, eμd, c56, upd_com (by omega)]; rfl) | (rw [hvσ_3, eμd, c56]; rfl)) | exact pk_no (k := (ar9 x L μ (kb both) (na9 (kb both)) 0 0 e).1) rfl (by rw [hR]; exact hf9) hvσ_3 | fail), (by first | exact ht5004_σ_3 | assumption | fail), (by rw [hR]; exact ht5005_σ_3), (by rw [hR]; exact ht5006_σ_3), (by rw [hR]; exact ht5007_σ_3), (by rw [hR]; exact ht5009_σ_3), (by first | (rw [hR]; exact (ht4004_σ_3).trans (if_pos rfl).symm) | (rw [hR]; exact (ht4004_σ_3).trans (if_neg hf9).symm) | (rw [hR]; exact ht4004_σ_3) | fail), (by first | exact hcTX_σ_3 | assumption | fail), (by rw [hR]; exact hcVL_σ_3), (by exact hcFR_σ_3)⟩)
    ·
      have hf9 : nh9 μ x L (txE x L e) (some (txV x L e)) ≠ 0 := of_decide_eq_false c24
      have h1 : af9 x L μ (kb both) 1 (txV x L e) (txE x L e) = nh9 μ x L (txE x L e) (some (txV x L e)) := nh_af1 (by have := kb_i both; omega)
      have hR : ar9 x L μ (kb both) (na9 (kb both)) 0 0 e = (nh9 μ x L (txE x L e) (some (txV x L e)), txE x L e) := by rw [hna]; exact (ar9_y0 h0).trans ((ar9_no (by rw [h1]; exact hf9)).trans (by rw [h1]))
      refine g_iconst h dX12_anAir_27 (by decide) ?_
      exact g_zret h hQ dX12_anAir_28 (show narrow .boolean (.int (b2i false)) = .int (b2i false) from narrow_b2i _) (congrArg (fun z => some (Value.int (b2i z))) (show (decide ((ar9 x L μ (kb both) (na9 (kb both)) 0 0 e).1 = 0)) = false by rw [hR]; first | rfl | exact decide_eq_true rfl | exact decide_eq_false hf9)) (by exact ⟨(by first | exact pk_yes (by rw [hR]) (by first | (rw [hvσb, eμf, eμd, c56, upd_com (by omega)]; rfl) | (rw [hvσb, eμd, c56]; rfl)) | exact pk_no (k := (ar9 x L μ (kb both) (na9 (kb both)) 0 0 e).1) rfl (by rw [hR]; exact hf9) hvσb | fail), (by first | exact ht5004_σb | assumption | fail), (by rw [hR]; exact ht5005_σb), (by rw [hR]; exact ht5006_σb), (by rw [hR]; exact ht5007_σb), (by rw [hR]; exact ht5009_σb), (by first | (rw [hR]; exact (ht4004_σb).trans (if_pos rfl).symm) | (rw [hR]; exact (ht4004_σb).trans (if_neg hf9).symm) | (rw [hR]; exact ht4004_σb) | fail), (by first | exact hcTX_σb | assumption | fail), (by rw [hR]; exact hcVL_σb), (by exact hcFR_σb)⟩)
  ·
    have hf9 : nh9 μ x L e none ≠ 0 := of_decide_eq_false c5
    have h0 : af9 x L μ (kb both) 0 0 e = nh9 μ x L e none := nh_af (by have := kb_i both; omega)
    have hna : na9 (kb both) = 2 := by cases both <;> rfl
    have hR : ar9 x L μ (kb both) (na9 (kb both)) 0 0 e = (nh9 μ x L e none, e) := by rw [hna]; exact (ar9_no (by rw [h0]; exact hf9)).trans (by rw [h0])
    refine g_iconst h dX12_anAir_8 (by decide) ?_
    exact g_zret h hQ dX12_anAir_9 (show narrow .boolean (.int (b2i false)) = .int (b2i false) from narrow_b2i _) (congrArg (fun z => some (Value.int (b2i z))) (show (decide ((ar9 x L μ (kb both) (na9 (kb both)) 0 0 e).1 = 0)) = false by rw [hR]; first | rfl | exact decide_eq_true rfl | exact decide_eq_false hf9)) (by exact ⟨(by first | exact pk_yes (by rw [hR]) (by first | (rw [hvσa, eμf, eμd, c56, upd_com (by omega)]; rfl) | (rw [hvσa, eμd, c56]; rfl)) | exact pk_no (k := (ar9 x L μ (kb both) (na9 (kb both)) 0 0 e).1) rfl (by rw [hR]; exact hf9) hvσa | fail), (by first | exact ht5004_σa | assumption | fail), (by rw [hR]; exact ht5005_σa), (by rw [hR]; exact ht5006_σa), (by rw [hR]; exact ht5007_σa), (by rw [hR]; exact ht5009_σa), (by first | (rw [hR]; exact (ht4004_σa).trans (if_pos rfl).symm) | (rw [hR]; exact (ht4004_σa).trans (if_neg hf9).symm) | (rw [hR]; exact ht4004_σa) | fail), (by first | exact hcTX_σa | assumption | fail), (by rw [hR]; exact hcVL_σa), (by exact hcFR_σa)⟩)

set_option maxRecDepth 100000 in
set_option maxHeartbeats 4000000 in
theorem r_aJam {l : Launch} {w : Wd} (hW : Wi w) {σ : Mem} (e L : Nat) (x : Nat → Nat) (p0 : Int32) (μ : Nat → Int32) (he : e ≤ L) (hL : L ≤ 400) (hv : vw 0 σ = μ) (hI : MI μ) (ht5004_σ : σ 5004 = (nI L)) (ht5005_σ : σ 5005 = (nI (kr (txK x L e)))) (ht5006_σ : σ 5006 = (nI (txS x L e))) (ht5007_σ : σ 5007 = (nI (txE x L e))) (ht5009_σ : σ 5009 = (nI 0)) (ht4004_σ : σ 4004 = p0) (hcTX_σ : TX 5600 σ L x) (hcVL_σ : VL σ x L e) : MC l w qX12_aJam 3 [.ref (w.1 0)] σ (some (.int (b2i (decide ((ar9 x L μ 7 (na9 7) 0 0 e).1 = 0))))) (fun σ' => (vw 0 σ' = pk0 (ar9 x L μ 7 (na9 7) 0 0 e).1 (EF μ 7 (txV x L e) (txV x L (txE x L e)) (txV x L (txE x L (txE x L e)))) μ) ∧ (σ' 5004 = (nI L)) ∧ (σ' 5005 = (nI (kr (txK x L (ar9 x L μ 7 (na9 7) 0 0 e).2)))) ∧ (σ' 5006 = (nI (txS x L (ar9 x L μ 7 (na9 7) 0 0 e).2))) ∧ (σ' 5007 = (nI (txE x L (ar9 x L μ 7 (na9 7) 0 0 e).2))) ∧ (σ' 5009 = (nI ((ar9 x L μ 7 (na9 7) 0 0 e).1))) ∧ (σ' 4004 = (if (ar9 x L μ 7 (na9 7) 0 0 e).1 = 0 then p0 else nI (txS x L (ar9 x L μ 7 (na9 7) 0 0 e).2))) ∧ (TX 5600 σ' L x) ∧ (VL σ' x L (ar9 x L μ 7 (na9 7) 0 0 e).2) ∧ (∀ a, (464 ≤ a ∧ a ≠ 5009 ∧ a ≠ 4004 ∧ (a < 5005 ∨ 5008 < a) ∨ a = 10) → σ' a = σ a)) := by
  refine MC.of hW (by decide +kernel) (Nat.le_of_ble_eq_true rfl) (fun X h hQ hnm => ?_)
  have h : Fx X w cX12_aJam 3 RX12 3 := h
  have hQ : Qx X w (some .boolean) (some (.int (b2i (decide ((ar9 x L μ 7 (na9 7) 0 0 e).1 = 0))))) (fun σ' => (vw 0 σ' = pk0 (ar9 x L μ 7 (na9 7) 0 0 e).1 (EF μ 7 (txV x L e) (txV x L (txE x L e)) (txV x L (txE x L (txE x L e)))) μ) ∧ (σ' 5004 = (nI L)) ∧ (σ' 5005 = (nI (kr (txK x L (ar9 x L μ 7 (na9 7) 0 0 e).2)))) ∧ (σ' 5006 = (nI (txS x L (ar9 x L μ 7 (na9 7) 0 0 e).2))) ∧ (σ' 5007 = (nI (txE x L (ar9 x L μ 7 (na9 7) 0 0 e).2))) ∧ (σ' 5009 = (nI ((ar9 x L μ 7 (na9 7) 0 0 e).1))) ∧ (σ' 4004 = (if (ar9 x L μ 7 (na9 7) 0 0 e).1 = 0 then p0 else nI (txS x L (ar9 x L μ 7 (na9 7) 0 0 e).2))) ∧ (TX 5600 σ' L x) ∧ (VL σ' x L (ar9 x L μ 7 (na9 7) 0 0 e).2) ∧ (∀ a, (464 ≤ a ∧ a ≠ 5009 ∧ a ≠ 4004 ∧ (a < 5005 ∨ 5008 < a) ∨ a = 10) → σ' a = σ a)) := hQ
  have hN8 := mi_8 hI
  have h5 := (kr_i (x := x) (L := L) (e := e)).2.2.2.2.2
  have hb := tx_b (x := x) he
  have hcFR_σ : ∀ a, (464 ≤ a ∧ a ≠ 5009 ∧ a ≠ 4004 ∧ (a < 5005 ∨ 5008 < a) ∨ a = 10) → σ a = σ a := fun _ _ => rfl
  show G X w 3 0 [(0, .ref (w.1 0))] [] σ
  refine g_aload_n h dX12_aJam_0 0 rfl ?_
  refine g_iconstv h dX12_aJam_1 (v := (-1)) (by decide) ?_
  refine g_cvi (rest := []) h (r_isNodeHere hW none e L x p0 μ (by first | exact hv | assumption | fail) (by assumption) (by first | (intro b h9; cases h9; omega) | (intro b h9; cases h9) | fail) (by first | exact ht5005_σ | assumption | fail) (by first | exact ht5006_σ | assumption | fail) (by first | exact ht5009_σ | assumption | fail) (by first | exact ht4004_σ | assumption | fail) (by first | exact hcVL_σ | assumption | fail)) lX12_isNodeHere mX12_241 (Nat.lt_of_lt_of_le (by decide) (Nat.le_refl _)) (by decide) sc_0 rfl rfl rfl rfl dX12_aJam_2 (fun σa eσa => ?_)
  obtain ⟨eσa_a, eσa_b, eσa_c⟩ := eσa
  have eσa_a : σa 5009 = (nI (nh9 μ x L e none)) := eσa_a
  have eσa_b : σa 4004 = (if nh9 μ x L e none = 0 then p0 else nI (txS x L e)) := eσa_b
  have eσa_c : ∀ a, (a ≠ 5009 ∧ a ≠ 4004) → σa a = σ a := eσa_c
  have ht5004_σa : σa 5004 = (nI L) := by rw [eσa_c _ (by first | omega | (simp only [vb] at *; omega))]; first | exact ht5004_σ | assumption
  have ht5005_σa : σa 5005 = (nI (kr (txK x L e))) := by rw [eσa_c _ (by first | omega | (simp only [vb] at *; omega))]; first | exact ht5005_σ | assumption
  have ht5006_σa : σa 5006 = (nI (txS x L e)) := by rw [eσa_c _ (by first | omega | (simp only [vb] at *; omega))]; first | exact ht5006_σ | assumption
  have ht5007_σa : σa 5007 = (nI (txE x L e)) := by rw [eσa_c _ (by first | omega | (simp only [vb] at *; omega))]; first | exact ht5007_σ | assumption
  have ht5009_σa : σa 5009 = (nI (nh9 μ x L e none)) := eσa_a
  have ht4004_σa : σa 4004 = (if nh9 μ x L e none = 0 then p0 else nI (txS x L e)) := eσa_b
  have hcTX_σa : TX 5600 σa L x := by exact TX.fr hcTX_σ (fun a ha hb => eσa_c a (by first | omega | (simp only [vb] at *; omega)))
  have hcVL_σa : VL σa x L e := by exact VL.fr hcVL_σ (eσa_c _ (by first | omega | (simp only [vb] at *; omega)))
  have hcFR_σa : ∀ a, (464 ≤ a ∧ a ≠ 5009 ∧ a ≠ 4004 ∧ (a < 5005 ∨ 5008 < a) ∨ a = 10) → σa a = σ a := by intro a ha; exact Eq.trans (b := σ a) (eσa_c a (by first | omega | (simp only [vb] at *; omega))) (hcFR_σ a ha)
  have hvσa : vw 0 σa = μ := by rw [vw_fr (σ := σ) (fun j _ _ => eσa_c _ (by first | omega | (simp only [vb] at *; omega)))]; first | exact hv | assumption
  refine g_ifB_ne h dX12_aJam_5 (fun c5 => ?_) (fun c5 => ?_)
  ·
    have hn0 : nh9 μ x L e none = 0 := of_decide_eq_true c5
    obtain ⟨hK0, hv0, -⟩ := nh9_0 hn0
    have h0 : af9 x L μ 7 0 0 e = 0 := (nh_af (by omega)).trans hn0
    have hb1 := tx_b (x := x) (L := L) (e := txE x L e) hb.2.2
    have ht5009_σa : σa 5009 = (nI 0) := by rw [ht5009_σa, of_decide_eq_true c5]
    have ht4004_σa : σa 4004 = p0 := by rw [ht4004_σa, if_pos (of_decide_eq_true c5)]
    refine g_aload_n h dX12_aJam_10 0 rfl ?_
    refine g_geti h dX12_aJam_11 gX12_205 sc_0 rfl ?_
    refine g_top (y := (nI (txV x L e))) (hcVL_σa hK0) ?_
    refine g_istore_n (L' := [(0, .ref (w.1 0)), (1, .int (nI (txV x L e)))]) h dX12_aJam_14 rfl (by decide) rfl ?_
    refine g_aload_n h dX12_aJam_15 0 rfl ?_
    refine g_cvv (rest := []) h (r_ahead hW (txE x L e) L x (by first | omega | assumption | fail) (by first | omega | assumption | fail) (by first | exact ht5004_σa | assumption | fail) (by first | exact ht5007_σa | assumption | fail) (by first | exact hcTX_σa | assumption | fail)) lX12_ahead mX12_229 (Nat.lt_of_lt_of_le (by decide) (Nat.le_refl _)) (by decide) sc_0 rfl rfl rfl rfl dX12_aJam_16 (fun σ_1 eσ_1 => ?_)
    obtain ⟨eσ_1_a, eσ_1_b, eσ_1_c, eσ_1_d, eσ_1_e, eσ_1_f, eσ_1_g⟩ := eσ_1
    have eσ_1_a : σ_1 5004 = (nI L) := eσ_1_a
    have eσ_1_b : σ_1 5005 = (nI (kr (txK x L (txE x L e)))) := eσ_1_b
    have eσ_1_c : σ_1 5006 = (nI (txS x L (txE x L e))) := eσ_1_c
    have eσ_1_d : σ_1 5007 = (nI (txE x L (txE x L e))) := eσ_1_d
    have eσ_1_e : TX 5600 σ_1 L x := eσ_1_e
    have eσ_1_f : VL σ_1 x L (txE x L e) := eσ_1_f
    have eσ_1_g : ∀ a, (a < 5005 ∨ 5008 < a) → σ_1 a = σa a := eσ_1_g
    have ht5009_σ_1 : σ_1 5009 = (nI 0) := by rw [eσ_1_g _ (by first | omega | (simp only [vb] at *; omega))]; first | exact ht5009_σa | assumption
    have ht4004_σ_1 : σ_1 4004 = p0 := by rw [eσ_1_g _ (by first | omega | (simp only [vb] at *; omega))]; first | exact ht4004_σa | assumption
    have ht5004_σ_1 : σ_1 5004 = (nI L) := eσ_1_a
    have ht5005_σ_1 : σ_1 5005 = (nI (kr (txK x L (txE x L e)))) := eσ_1_b
    have ht5006_σ_1 : σ_1 5006 = (nI (txS x L (txE x L e))) := eσ_1_c
    have ht5007_σ_1 : σ_1 5007 = (nI (txE x L (txE x L e))) := eσ_1_d
    have hcTX_σ_1 : TX 5600 σ_1 L x := eσ_1_e
    have hcVL_σ_1 : VL σ_1 x L (txE x L e) := eσ_1_f
    have hcFR_σ_1 : ∀ a, (464 ≤ a ∧ a ≠ 5009 ∧ a ≠ 4004 ∧ (a < 5005 ∨ 5008 < a) ∨ a = 10) → σ_1 a = σ a := by intro a ha; exact Eq.trans (b := σa a) (eσ_1_g a (by first | omega | (simp only [vb] at *; omega))) (hcFR_σa a ha)
    have hvσ_1 : vw 0 σ_1 = μ := by rw [vw_fr (σ := σa) (fun j _ _ => eσ_1_g _ (by first | omega | (simp only [vb] at *; omega)))]; first | exact hvσa | assumption
    refine g_aload_n h dX12_aJam_19 0 rfl ?_
    refine g_iload_n h dX12_aJam_20 1 rfl ?_
    refine g_cvi (rest := []) h (r_isNodeHere hW (some (txV x L e)) (txE x L e) L x p0 μ (by first | exact hvσ_1 | assumption | fail) (by assumption) (by first | (intro b h9; cases h9; omega) | (intro b h9; cases h9) | fail) (by first | exact ht5005_σ_1 | assumption | fail) (by first | exact ht5006_σ_1 | assumption | fail) (by first | exact ht5009_σ_1 | assumption | fail) (by first | exact ht4004_σ_1 | assumption | fail) (by first | exact hcVL_σ_1 | assumption | fail)) lX12_isNodeHere mX12_241 (Nat.lt_of_lt_of_le (by decide) (Nat.le_refl _)) (by decide) sc_0 rfl rfl rfl rfl dX12_aJam_21 (fun σb eσb => ?_)
    obtain ⟨eσb_a, eσb_b, eσb_c⟩ := eσb
    have eσb_a : σb 5009 = (nI (nh9 μ x L (txE x L e) (some (txV x L e)))) := eσb_a
    have eσb_b : σb 4004 = (if nh9 μ x L (txE x L e) (some (txV x L e)) = 0 then p0 else nI (txS x L (txE x L e))) := eσb_b
    have eσb_c : ∀ a, (a ≠ 5009 ∧ a ≠ 4004) → σb a = σ_1 a := eσb_c
    have ht5004_σb : σb 5004 = (nI L) := by rw [eσb_c _ (by first | omega | (simp only [vb] at *; omega))]; first | exact ht5004_σ_1 | assumption
    have ht5005_σb : σb 5005 = (nI (kr (txK x L (txE x L e)))) := by rw [eσb_c _ (by first | omega | (simp only [vb] at *; omega))]; first | exact ht5005_σ_1 | assumption
    have ht5006_σb : σb 5006 = (nI (txS x L (txE x L e))) := by rw [eσb_c _ (by first | omega | (simp only [vb] at *; omega))]; first | exact ht5006_σ_1 | assumption
    have ht5007_σb : σb 5007 = (nI (txE x L (txE x L e))) := by rw [eσb_c _ (by first | omega | (simp only [vb] at *; omega))]; first | exact ht5007_σ_1 | assumption
    have ht5009_σb : σb 5009 = (nI (nh9 μ x L (txE x L e) (some (txV x L e)))) := eσb_a
    have ht4004_σb : σb 4004 = (if nh9 μ x L (txE x L e) (some (txV x L e)) = 0 then p0 else nI (txS x L (txE x L e))) := eσb_b
    have hcTX_σb : TX 5600 σb L x := by exact TX.fr hcTX_σ_1 (fun a ha hb => eσb_c a (by first | omega | (simp only [vb] at *; omega)))
    have hcVL_σb : VL σb x L (txE x L e) := by exact VL.fr hcVL_σ_1 (eσb_c _ (by first | omega | (simp only [vb] at *; omega)))
    have hcFR_σb : ∀ a, (464 ≤ a ∧ a ≠ 5009 ∧ a ≠ 4004 ∧ (a < 5005 ∨ 5008 < a) ∨ a = 10) → σb a = σ a := by intro a ha; exact Eq.trans (b := σ_1 a) (eσb_c a (by first | omega | (simp only [vb] at *; omega))) (hcFR_σ_1 a ha)
    have hvσb : vw 0 σb = μ := by rw [vw_fr (σ := σ_1) (fun j _ _ => eσb_c _ (by first | omega | (simp only [vb] at *; omega)))]; first | exact hvσ_1 | assumption
    refine g_ifB_ne h dX12_aJam_24 (fun c24 => ?_) (fun c24 => ?_)
    ·
      have hn1 : nh9 μ x L (txE x L e) (some (txV x L e)) = 0 := of_decide_eq_true c24
      obtain ⟨hK1, hv1, hne⟩ := nh9_0 hn1
      have h1 : af9 x L μ 7 1 (txV x L e) (txE x L e) = 0 := (nh_af1 (by omega)).trans hn1
      have hb2 := tx_b (x := x) (L := L) (e := txE x L (txE x L e)) hb1.2.2
      have ht5009_σb : σb 5009 = (nI 0) := by rw [ht5009_σb, of_decide_eq_true c24]
      have ht4004_σb : σb 4004 = p0 := by rw [ht4004_σb, if_pos (of_decide_eq_true c24)]
      refine g_aload_n h dX12_aJam_29 0 rfl ?_
      refine g_geti h dX12_aJam_30 gX12_205 sc_0 rfl ?_
      refine g_top (y := (nI (txV x L (txE x L e)))) (hcVL_σb hK1) ?_
      refine g_istore_n (L' := [(0, .ref (w.1 0)), (1, .int (nI (txV x L e))), (2, .int (nI (txV x L (txE x L e))))]) h dX12_aJam_33 rfl (by decide) rfl ?_
      refine g_aload_n h dX12_aJam_34 0 rfl ?_
      refine g_cvv (rest := []) h (r_ahead hW (txE x L (txE x L e)) L x (by first | omega | assumption | fail) (by first | omega | assumption | fail) (by first | exact ht5004_σb | assumption | fail) (by first | exact ht5007_σb | assumption | fail) (by first | exact hcTX_σb | assumption | fail)) lX12_ahead mX12_229 (Nat.lt_of_lt_of_le (by decide) (Nat.le_refl _)) (by decide) sc_0 rfl rfl rfl rfl dX12_aJam_35 (fun σ_2 eσ_2 => ?_)
      obtain ⟨eσ_2_a, eσ_2_b, eσ_2_c, eσ_2_d, eσ_2_e, eσ_2_f, eσ_2_g⟩ := eσ_2
      have eσ_2_a : σ_2 5004 = (nI L) := eσ_2_a
      have eσ_2_b : σ_2 5005 = (nI (kr (txK x L (txE x L (txE x L e))))) := eσ_2_b
      have eσ_2_c : σ_2 5006 = (nI (txS x L (txE x L (txE x L e)))) := eσ_2_c
      have eσ_2_d : σ_2 5007 = (nI (txE x L (txE x L (txE x L e)))) := eσ_2_d
      have eσ_2_e : TX 5600 σ_2 L x := eσ_2_e
      have eσ_2_f : VL σ_2 x L (txE x L (txE x L e)) := eσ_2_f
      have eσ_2_g : ∀ a, (a < 5005 ∨ 5008 < a) → σ_2 a = σb a := eσ_2_g
      have ht5009_σ_2 : σ_2 5009 = (nI 0) := by rw [eσ_2_g _ (by first | omega | (simp only [vb] at *; omega))]; first | exact ht5009_σb | assumption
      have ht4004_σ_2 : σ_2 4004 = p0 := by rw [eσ_2_g _ (by first | omega | (simp only [vb] at *; omega))]; first | exact ht4004_σb | assumption
      have ht5004_σ_2 : σ_2 5004 = (nI L) := eσ_2_a
      have ht5005_σ_2 : σ_2 5005 = (nI (kr (txK x L (txE x L (txE x L e))))) := eσ_2_b
      have ht5006_σ_2 : σ_2 5006 = (nI (txS x L (txE x L (txE x L e)))) := eσ_2_c
      have ht5007_σ_2 : σ_2 5007 = (nI (txE x L (txE x L (txE x L e)))) := eσ_2_d
      have hcTX_σ_2 : TX 5600 σ_2 L x := eσ_2_e
      have hcVL_σ_2 : VL σ_2 x L (txE x L (txE x L e)) := eσ_2_f
      have hcFR_σ_2 : ∀ a, (464 ≤ a ∧ a ≠ 5009 ∧ a ≠ 4004 ∧ (a < 5005 ∨ 5008 < a) ∨ a = 10) → σ_2 a = σ a := by intro a ha; exact Eq.trans (b := σb a) (eσ_2_g a (by first | omega | (simp only [vb] at *; omega))) (hcFR_σb a ha)
      have hvσ_2 : vw 0 σ_2 = μ := by rw [vw_fr (σ := σb) (fun j _ _ => eσ_2_g _ (by first | omega | (simp only [vb] at *; omega)))]; first | exact hvσb | assumption
      refine g_aload_n h dX12_aJam_38 0 rfl ?_
      refine g_iconst h dX12_aJam_39 (by decide) ?_
      refine g_bipush h dX12_aJam_40 (by decide) ?_
      refine g_cvi (rest := []) h (r_isNumber hW 1 99 (txE x L (txE x L e)) L x p0 (by omega) (by omega) (by first | exact ht5005_σ_2 | assumption | fail) (by first | exact ht5006_σ_2 | assumption | fail) (by first | exact ht5009_σ_2 | assumption | fail) (by first | exact ht4004_σ_2 | assumption | fail) (by first | exact hcVL_σ_2 | assumption | fail)) lX12_isNumber mX12_235 (Nat.lt_of_lt_of_le (by decide) (Nat.le_refl _)) (by decide) sc_0 rfl rfl rfl rfl dX12_aJam_42 (fun σc eσc => ?_)
      obtain ⟨eσc_a, eσc_b, eσc_c⟩ := eσc
      have eσc_a : σc 5009 = (nI (nf9 x L (txE x L (txE x L e)) 1 99)) := eσc_a
      have eσc_b : σc 4004 = (if nf9 x L (txE x L (txE x L e)) 1 99 = 0 then p0 else nI (txS x L (txE x L (txE x L e)))) := eσc_b
      have eσc_c : ∀ a, (a ≠ 5009 ∧ a ≠ 4004) → σc a = σ_2 a := eσc_c
      have ht5004_σc : σc 5004 = (nI L) := by rw [eσc_c _ (by first | omega | (simp only [vb] at *; omega))]; first | exact ht5004_σ_2 | assumption
      have ht5005_σc : σc 5005 = (nI (kr (txK x L (txE x L (txE x L e))))) := by rw [eσc_c _ (by first | omega | (simp only [vb] at *; omega))]; first | exact ht5005_σ_2 | assumption
      have ht5006_σc : σc 5006 = (nI (txS x L (txE x L (txE x L e)))) := by rw [eσc_c _ (by first | omega | (simp only [vb] at *; omega))]; first | exact ht5006_σ_2 | assumption
      have ht5007_σc : σc 5007 = (nI (txE x L (txE x L (txE x L e)))) := by rw [eσc_c _ (by first | omega | (simp only [vb] at *; omega))]; first | exact ht5007_σ_2 | assumption
      have ht5009_σc : σc 5009 = (nI (nf9 x L (txE x L (txE x L e)) 1 99)) := eσc_a
      have ht4004_σc : σc 4004 = (if nf9 x L (txE x L (txE x L e)) 1 99 = 0 then p0 else nI (txS x L (txE x L (txE x L e)))) := eσc_b
      have hcTX_σc : TX 5600 σc L x := by exact TX.fr hcTX_σ_2 (fun a ha hb => eσc_c a (by first | omega | (simp only [vb] at *; omega)))
      have hcVL_σc : VL σc x L (txE x L (txE x L e)) := by exact VL.fr hcVL_σ_2 (eσc_c _ (by first | omega | (simp only [vb] at *; omega)))
      have hcFR_σc : ∀ a, (464 ≤ a ∧ a ≠ 5009 ∧ a ≠ 4004 ∧ (a < 5005 ∨ 5008 < a) ∨ a = 10) → σc a = σ a := by intro a ha; exact Eq.trans (b := σ_2 a) (eσc_c a (by first | omega | (simp only [vb] at *; omega))) (hcFR_σ_2 a ha)
      have hvσc : vw 0 σc = μ := by rw [vw_fr (σ := σ_2) (fun j _ _ => eσc_c _ (by first | omega | (simp only [vb] at *; omega)))]; first | exact hvσ_2 | assumption
      refine g_ifB_ne h dX12_aJam_45 (fun c45 => ?_) (fun c45 => ?_)
      ·
        have hn2 : nf9 x L (txE x L (txE x L e)) 1 99 = 0 := of_decide_eq_true c45
        have h2 : af9 x L μ 7 2 (txV x L e) (txE x L (txE x L e)) = 0 := (nf_af (fun v => rfl)).trans hn2
        have hK2 := (af9_0 h2).1
        have hw9 := txV_lt hK2
        have hR : ar9 x L μ 7 (na9 7) 0 0 e = (0, txE x L (txE x L (txE x L e))) := (ar9_y0 h0).trans ((ar9_y1 h1).trans (ar9_y1 h2))
        have hb3 := tx_b (x := x) (L := L) (e := txE x L (txE x L (txE x L e))) hb2.2.2
        have ht5009_σc : σc 5009 = (nI 0) := by rw [ht5009_σc, of_decide_eq_true c45]
        have ht4004_σc : σc 4004 = p0 := by rw [ht4004_σc, if_pos (of_decide_eq_true c45)]
        refine g_aload_n h dX12_aJam_50 0 rfl ?_
        refine g_sipush h dX12_aJam_51 (by decide) ?_
        refine g_iload_n h dX12_aJam_54 1 rfl ?_
        refine g_iload_n h dX12_aJam_55 2 rfl ?_
        refine g_cspi (rest := [.ref (w.1 0)]) h (r_two hW 208 (txV x L e) (txV x L (txE x L e)) ) lX12_two mX12_69 (Nat.lt_of_lt_of_le (by decide) (Nat.le_refl _)) (by decide) rfl rfl rfl dX12_aJam_56 ?_
        refine g_aload_n h dX12_aJam_59 0 rfl ?_
        refine g_geti h dX12_aJam_60 gX12_205 sc_0 rfl ?_
        refine g_top (y := (nI (txV x L (txE x L (txE x L e))))) (hcVL_σc hK2) ?_
        refine g_cvv (rest := []) h (r_puts hW (208 + (8 * (txV x L e) + (txV x L (txE x L e)))) (nI (txV x L (txE x L (txE x L e)))) (by omega)) lX12_puts mX12_57 (Nat.lt_of_lt_of_le (by decide) (Nat.le_refl _)) (by decide) sc_0 rfl rfl rfl rfl dX12_aJam_63 (fun σd eσd => ?_)
        have eσd_a : σd = upd σc (0 + (208 + (8 * (txV x L e) + (txV x L (txE x L e))))) (nI (txV x L (txE x L (txE x L e)))) := eσd
        have ht5004_σd : σd 5004 = (nI L) := by rw [eσd_a, upd_ne (by first | omega | (simp only [vb] at *; omega))]; first | exact ht5004_σc | assumption
        have ht5005_σd : σd 5005 = (nI (kr (txK x L (txE x L (txE x L e))))) := by rw [eσd_a, upd_ne (by first | omega | (simp only [vb] at *; omega))]; first | exact ht5005_σc | assumption
        have ht5006_σd : σd 5006 = (nI (txS x L (txE x L (txE x L e)))) := by rw [eσd_a, upd_ne (by first | omega | (simp only [vb] at *; omega))]; first | exact ht5006_σc | assumption
        have ht5007_σd : σd 5007 = (nI (txE x L (txE x L (txE x L e)))) := by rw [eσd_a, upd_ne (by first | omega | (simp only [vb] at *; omega))]; first | exact ht5007_σc | assumption
        have ht5009_σd : σd 5009 = (nI 0) := by rw [eσd_a, upd_ne (by first | omega | (simp only [vb] at *; omega))]; first | exact ht5009_σc | assumption
        have ht4004_σd : σd 4004 = p0 := by rw [eσd_a, upd_ne (by first | omega | (simp only [vb] at *; omega))]; first | exact ht4004_σc | assumption
        have hcTX_σd : TX 5600 σd L x := by rw [eσd_a]; exact TX.fr hcTX_σc (fun a ha hb => upd_ne (by first | omega | (simp only [vb] at *; omega)))
        have hcVL_σd : VL σd x L (txE x L (txE x L e)) := by rw [eσd_a]; exact VL.fr hcVL_σc (upd_ne (by first | omega | (simp only [vb] at *; omega)))
        have hcFR_σd : ∀ a, (464 ≤ a ∧ a ≠ 5009 ∧ a ≠ 4004 ∧ (a < 5005 ∨ 5008 < a) ∨ a = 10) → σd a = σ a := by intro a ha; exact Eq.trans (b := σc a) (by rw [eσd_a, upd_ne (by first | omega | (simp only [vb] at *; omega))]) (hcFR_σc a ha)
        obtain ⟨μd, eμd⟩ : ∃ μd : Nat → Int32, μd = upd μ (208 + (8 * (txV x L e) + (txV x L (txE x L e)))) (nI (txV x L (txE x L (txE x L e)))) := ⟨_, rfl⟩
        have hvσd : vw 0 σd = μd := by rw [eσd_a, eμd, vw_in (by omega)]; congr 1
        refine g_aload_n h dX12_aJam_66 0 rfl ?_
        refine g_cvi (rest := []) h (r_takes hW (txE x L (txE x L (txE x L e))) L x (by first | omega | assumption | fail) (by first | omega | assumption | fail) (by first | exact ht5004_σd | assumption | fail) (by first | exact ht5007_σd | assumption | fail) (by first | exact hcTX_σd | assumption | fail)) lX12_takes mX12_232 (Nat.lt_of_lt_of_le (by decide) (Nat.le_refl _)) (by decide) sc_0 rfl rfl rfl rfl dX12_aJam_67 (fun σ_3 eσ_3 => ?_)
        obtain ⟨eσ_3_a, eσ_3_b, eσ_3_c, eσ_3_d, eσ_3_e, eσ_3_f, eσ_3_g⟩ := eσ_3
        have eσ_3_a : σ_3 5004 = (nI L) := eσ_3_a
        have eσ_3_b : σ_3 5005 = (nI (kr (txK x L (txE x L (txE x L (txE x L e)))))) := eσ_3_b
        have eσ_3_c : σ_3 5006 = (nI (txS x L (txE x L (txE x L (txE x L e))))) := eσ_3_c
        have eσ_3_d : σ_3 5007 = (nI (txE x L (txE x L (txE x L (txE x L e))))) := eσ_3_d
        have eσ_3_e : TX 5600 σ_3 L x := eσ_3_e
        have eσ_3_f : VL σ_3 x L (txE x L (txE x L (txE x L e))) := eσ_3_f
        have eσ_3_g : ∀ a, (a < 5005 ∨ 5008 < a) → σ_3 a = σd a := eσ_3_g
        have ht5009_σ_3 : σ_3 5009 = (nI 0) := by rw [eσ_3_g _ (by first | omega | (simp only [vb] at *; omega))]; first | exact ht5009_σd | assumption
        have ht4004_σ_3 : σ_3 4004 = p0 := by rw [eσ_3_g _ (by first | omega | (simp only [vb] at *; omega))]; first | exact ht4004_σd | assumption
        have ht5004_σ_3 : σ_3 5004 = (nI L) := eσ_3_a
        have ht5005_σ_3 : σ_3 5005 = (nI (kr (txK x L (txE x L (txE x L (txE x L e)))))) := eσ_3_b
        have ht5006_σ_3 : σ_3 5006 = (nI (txS x L (txE x L (txE x L (txE x L e))))) := eσ_3_c
        have ht5007_σ_3 : σ_3 5007 = (nI (txE x L (txE x L (txE x L (txE x L e))))) := eσ_3_d
        have hcTX_σ_3 : TX 5600 σ_3 L x := eσ_3_e
        have hcVL_σ_3 : VL σ_3 x L (txE x L (txE x L (txE x L e))) := eσ_3_f
        have hcFR_σ_3 : ∀ a, (464 ≤ a ∧ a ≠ 5009 ∧ a ≠ 4004 ∧ (a < 5005 ∨ 5008 < a) ∨ a = 10) → σ_3 a = σ a := by intro a ha; exact Eq.trans (b := σd a) (eσ_3_g a (by first | omega | (simp only [vb] at *; omega))) (hcFR_σd a ha)
        have hvσ_3 : vw 0 σ_3 = μd := by rw [vw_fr (σ := σd) (fun j _ _ => eσ_3_g _ (by first | omega | (simp only [vb] at *; omega)))]; first | exact hvσd | assumption
        refine g_top (y := nI 1) rfl ?_
        exact g_zret h hQ dX12_aJam_70 (show narrow .boolean (.int (b2i true)) = .int (b2i true) from narrow_b2i _) (congrArg (fun z => some (Value.int (b2i z))) (show (decide ((ar9 x L μ 7 (na9 7) 0 0 e).1 = 0)) = true by rw [hR]; first | rfl | exact decide_eq_true rfl | exact decide_eq_false hf9)) (by exact ⟨(by first | exact pk_yes (by rw [hR]) (by rw [hvσ_3, eμd]; rfl) | exact pk_no (k := (ar9 x L μ 7 (na9 7) 0 0 e).1) rfl (by rw [hR]; exact hf9) hvσ_3 | fail), (by first | exact ht5004_σ_3 | assumption | fail), (by rw [hR]; exact ht5005_σ_3), (by rw [hR]; exact ht5006_σ_3), (by rw [hR]; exact ht5007_σ_3), (by rw [hR]; exact ht5009_σ_3), (by first | (rw [hR]; exact (ht4004_σ_3).trans (if_pos rfl).symm) | (rw [hR]; exact (ht4004_σ_3).trans (if_neg hf9).symm) | (rw [hR]; exact ht4004_σ_3) | fail), (by first | exact hcTX_σ_3 | assumption | fail), (by rw [hR]; exact hcVL_σ_3), (by exact hcFR_σ_3)⟩)
      ·
        have hf9 : nf9 x L (txE x L (txE x L e)) 1 99 ≠ 0 := of_decide_eq_false c45
        have h2 : af9 x L μ 7 2 (txV x L e) (txE x L (txE x L e)) = nf9 x L (txE x L (txE x L e)) 1 99 := nf_af (fun v => rfl)
        have hR : ar9 x L μ 7 (na9 7) 0 0 e = (nf9 x L (txE x L (txE x L e)) 1 99, txE x L (txE x L e)) := (ar9_y0 h0).trans ((ar9_y1 h1).trans ((ar9_no (by rw [h2]; exact hf9)).trans (by rw [h2])))
        refine g_iconst h dX12_aJam_48 (by decide) ?_
        exact g_zret h hQ dX12_aJam_49 (show narrow .boolean (.int (b2i false)) = .int (b2i false) from narrow_b2i _) (congrArg (fun z => some (Value.int (b2i z))) (show (decide ((ar9 x L μ 7 (na9 7) 0 0 e).1 = 0)) = false by rw [hR]; first | rfl | exact decide_eq_true rfl | exact decide_eq_false hf9)) (by exact ⟨(by first | exact pk_yes (by rw [hR]) (by rw [hvσc, eμd]; rfl) | exact pk_no (k := (ar9 x L μ 7 (na9 7) 0 0 e).1) rfl (by rw [hR]; exact hf9) hvσc | fail), (by first | exact ht5004_σc | assumption | fail), (by rw [hR]; exact ht5005_σc), (by rw [hR]; exact ht5006_σc), (by rw [hR]; exact ht5007_σc), (by rw [hR]; exact ht5009_σc), (by first | (rw [hR]; exact (ht4004_σc).trans (if_pos rfl).symm) | (rw [hR]; exact (ht4004_σc).trans (if_neg hf9).symm) | (rw [hR]; exact ht4004_σc) | fail), (by first | exact hcTX_σc | assumption | fail), (by rw [hR]; exact hcVL_σc), (by exact hcFR_σc)⟩)
    ·
      have hf9 : nh9 μ x L (txE x L e) (some (txV x L e)) ≠ 0 := of_decide_eq_false c24
      have h1 : af9 x L μ 7 1 (txV x L e) (txE x L e) = nh9 μ x L (txE x L e) (some (txV x L e)) := nh_af1 (by omega)
      have hR : ar9 x L μ 7 (na9 7) 0 0 e = (nh9 μ x L (txE x L e) (some (txV x L e)), txE x L e) := (ar9_y0 h0).trans ((ar9_no (by rw [h1]; exact hf9)).trans (by rw [h1]))
      refine g_iconst h dX12_aJam_27 (by decide) ?_
      exact g_zret h hQ dX12_aJam_28 (show narrow .boolean (.int (b2i false)) = .int (b2i false) from narrow_b2i _) (congrArg (fun z => some (Value.int (b2i z))) (show (decide ((ar9 x L μ 7 (na9 7) 0 0 e).1 = 0)) = false by rw [hR]; first | rfl | exact decide_eq_true rfl | exact decide_eq_false hf9)) (by exact ⟨(by first | exact pk_yes (by rw [hR]) (by rw [hvσb, eμd]; rfl) | exact pk_no (k := (ar9 x L μ 7 (na9 7) 0 0 e).1) rfl (by rw [hR]; exact hf9) hvσb | fail), (by first | exact ht5004_σb | assumption | fail), (by rw [hR]; exact ht5005_σb), (by rw [hR]; exact ht5006_σb), (by rw [hR]; exact ht5007_σb), (by rw [hR]; exact ht5009_σb), (by first | (rw [hR]; exact (ht4004_σb).trans (if_pos rfl).symm) | (rw [hR]; exact (ht4004_σb).trans (if_neg hf9).symm) | (rw [hR]; exact ht4004_σb) | fail), (by first | exact hcTX_σb | assumption | fail), (by rw [hR]; exact hcVL_σb), (by exact hcFR_σb)⟩)
  ·
    have hf9 : nh9 μ x L e none ≠ 0 := of_decide_eq_false c5
    have h0 : af9 x L μ 7 0 0 e = nh9 μ x L e none := nh_af (by omega)
    have hR : ar9 x L μ 7 (na9 7) 0 0 e = (nh9 μ x L e none, e) := (ar9_no (by rw [h0]; exact hf9)).trans (by rw [h0])
    refine g_iconst h dX12_aJam_8 (by decide) ?_
    exact g_zret h hQ dX12_aJam_9 (show narrow .boolean (.int (b2i false)) = .int (b2i false) from narrow_b2i _) (congrArg (fun z => some (Value.int (b2i z))) (show (decide ((ar9 x L μ 7 (na9 7) 0 0 e).1 = 0)) = false by rw [hR]; first | rfl | exact decide_eq_true rfl | exact decide_eq_false hf9)) (by exact ⟨(by first | exact pk_yes (by rw [hR]) (by rw [hvσa, eμd]; rfl) | exact pk_no (k := (ar9 x L μ 7 (na9 7) 0 0 e).1) rfl (by rw [hR]; exact hf9) hvσa | fail), (by first | exact ht5004_σa | assumption | fail), (by rw [hR]; exact ht5005_σa), (by rw [hR]; exact ht5006_σa), (by rw [hR]; exact ht5007_σa), (by rw [hR]; exact ht5009_σa), (by first | (rw [hR]; exact (ht4004_σa).trans (if_pos rfl).symm) | (rw [hR]; exact (ht4004_σa).trans (if_neg hf9).symm) | (rw [hR]; exact ht4004_σa) | fail), (by first | exact hcTX_σa | assumption | fail), (by rw [hR]; exact hcVL_σa), (by exact hcFR_σa)⟩)

theorem of_af {x : Nat → Nat} {L e : Nat} {μ : Nat → Int32} (h : nh9 μ x L e none ≠ 0) : af9 x L μ 4 0 0 e = nh9 μ x L e none := by
  unfold af9 nh9 at *
  by_cases c : txK x L e = 2
  · rw [if_pos c, if_pos c] at *
    by_cases c1 : txV x L e < nN μ
    · rw [if_pos c1, if_neg (by intro q; cases q)] at h
      exact absurd rfl h
    · rw [if_neg c1]
      show (if txV x L e < nN μ then (if tb (μ 1) (txV x L e) = true then 0 else 5) else 3) = 3
      rw [if_neg c1]
  · rw [if_neg c, if_neg c]
theorem of_af2 {x : Nat → Nat} {L e : Nat} {μ : Nat → Int32} {p : Bool} (h : txK x L e = 2) (hv : txV x L e < nN μ) (hp : tb (μ 1) (txV x L e) = p) : af9 x L μ 4 0 0 e = if p = true then 0 else 5 := by
  unfold af9
  rw [if_pos h]
  show (if txV x L e < nN μ then (if tb (μ 1) (txV x L e) = true then 0 else 5) else 3) = _
  rw [if_pos hv, hp]
theorem no_af {x : Nat → Nat} {L e : Nat} {μ : Nat → Int32} (h : nf9 x L e 1 8 ≠ 0) : af9 x L μ 0 0 0 e = nf9 x L e 1 8 := by
  unfold af9 nf9 at *
  by_cases c : txK x L e = 2
  · rw [if_pos c, if_pos c] at *
    unfold rfa at *
    show (if 1 ≤ txV x L e ∧ txV x L e ≤ 8 then (if 8 < nN μ + txV x L e then 6 else 0) else 4) = _
    by_cases c1 : 1 ≤ txV x L e ∧ txV x L e ≤ 8
    · rw [if_pos c1] at h
      exact absurd rfl h
    · rw [if_neg c1, if_neg c1]
  · rw [if_neg c, if_neg c]
theorem no_af2 {x : Nat → Nat} {L e : Nat} {μ : Nat → Int32} (h : nf9 x L e 1 8 = 0) : txK x L e = 2 ∧ (1 ≤ txV x L e ∧ txV x L e ≤ 8) ∧ af9 x L μ 0 0 0 e = if 8 < nN μ + txV x L e then 6 else 0 := by
  unfold nf9 at h
  by_cases c : txK x L e = 2
  · rw [if_pos c] at h
    have q := rfa_0 h
    refine ⟨c, q, ?_⟩
    unfold af9
    rw [if_pos c]
    show (if 1 ≤ txV x L e ∧ txV x L e ≤ 8 then (if 8 < nN μ + txV x L e then 6 else 0) else 4) = _
    rw [if_pos q]
  · rw [if_neg c] at h
    exact absurd (tf9_0 h) c

set_option maxRecDepth 100000 in
set_option maxHeartbeats 4000000 in
theorem r_anOff {l : Launch} {w : Wd} (hW : Wi w) {σ : Mem} (e L : Nat) (x : Nat → Nat) (p0 : Int32) (μ : Nat → Int32) (he : e ≤ L) (hL : L ≤ 400) (hv : vw 0 σ = μ) (hI : MI μ) (ht5004_σ : σ 5004 = (nI L)) (ht5005_σ : σ 5005 = (nI (kr (txK x L e)))) (ht5006_σ : σ 5006 = (nI (txS x L e))) (ht5007_σ : σ 5007 = (nI (txE x L e))) (ht5009_σ : σ 5009 = (nI 0)) (ht4004_σ : σ 4004 = p0) (hcTX_σ : TX 5600 σ L x) (hcVL_σ : VL σ x L e) : MC l w qX12_anOff 3 [.ref (w.1 0)] σ (some (.int (b2i (decide ((ar9 x L μ 4 (na9 4) 0 0 e).1 = 0))))) (fun σ' => (vw 0 σ' = pk0 (ar9 x L μ 4 (na9 4) 0 0 e).1 (EF μ 4 (txV x L e) (txV x L (txE x L e)) (txV x L (txE x L (txE x L e)))) μ) ∧ (σ' 5004 = (nI L)) ∧ (σ' 5005 = (nI (kr (txK x L (ar9 x L μ 4 (na9 4) 0 0 e).2)))) ∧ (σ' 5006 = (nI (txS x L (ar9 x L μ 4 (na9 4) 0 0 e).2))) ∧ (σ' 5007 = (nI (txE x L (ar9 x L μ 4 (na9 4) 0 0 e).2))) ∧ (σ' 5009 = (nI ((ar9 x L μ 4 (na9 4) 0 0 e).1))) ∧ (σ' 4004 = (if (ar9 x L μ 4 (na9 4) 0 0 e).1 = 0 then p0 else nI (txS x L (ar9 x L μ 4 (na9 4) 0 0 e).2))) ∧ (TX 5600 σ' L x) ∧ (VL σ' x L (ar9 x L μ 4 (na9 4) 0 0 e).2) ∧ (∀ a, (464 ≤ a ∧ a ≠ 5009 ∧ a ≠ 4004 ∧ (a < 5005 ∨ 5008 < a) ∨ a = 10) → σ' a = σ a)) := by
  refine MC.of hW (by decide +kernel) (Nat.le_of_ble_eq_true rfl) (fun X h hQ hnm => ?_)
  have h : Fx X w cX12_anOff 1 RX12 3 := h
  have hQ : Qx X w (some .boolean) (some (.int (b2i (decide ((ar9 x L μ 4 (na9 4) 0 0 e).1 = 0))))) (fun σ' => (vw 0 σ' = pk0 (ar9 x L μ 4 (na9 4) 0 0 e).1 (EF μ 4 (txV x L e) (txV x L (txE x L e)) (txV x L (txE x L (txE x L e)))) μ) ∧ (σ' 5004 = (nI L)) ∧ (σ' 5005 = (nI (kr (txK x L (ar9 x L μ 4 (na9 4) 0 0 e).2)))) ∧ (σ' 5006 = (nI (txS x L (ar9 x L μ 4 (na9 4) 0 0 e).2))) ∧ (σ' 5007 = (nI (txE x L (ar9 x L μ 4 (na9 4) 0 0 e).2))) ∧ (σ' 5009 = (nI ((ar9 x L μ 4 (na9 4) 0 0 e).1))) ∧ (σ' 4004 = (if (ar9 x L μ 4 (na9 4) 0 0 e).1 = 0 then p0 else nI (txS x L (ar9 x L μ 4 (na9 4) 0 0 e).2))) ∧ (TX 5600 σ' L x) ∧ (VL σ' x L (ar9 x L μ 4 (na9 4) 0 0 e).2) ∧ (∀ a, (464 ≤ a ∧ a ≠ 5009 ∧ a ≠ 4004 ∧ (a < 5005 ∨ 5008 < a) ∨ a = 10) → σ' a = σ a)) := hQ
  have hN8 := mi_8 hI
  have h5 := (kr_i (x := x) (L := L) (e := e)).2.2.2.2.2
  have hb := tx_b (x := x) he
  have hcFR_σ : ∀ a, (464 ≤ a ∧ a ≠ 5009 ∧ a ≠ 4004 ∧ (a < 5005 ∨ 5008 < a) ∨ a = 10) → σ a = σ a := fun _ _ => rfl
  show G X w 1 0 [(0, .ref (w.1 0))] [] σ
  refine g_aload_n h dX12_anOff_0 0 rfl ?_
  refine g_iconstv h dX12_anOff_1 (v := (-1)) (by decide) ?_
  refine g_cvi (rest := []) h (r_isNodeHere hW none e L x p0 μ (by first | exact hv | assumption | fail) (by assumption) (by first | (intro b h9; cases h9; omega) | (intro b h9; cases h9) | fail) (by first | exact ht5005_σ | assumption | fail) (by first | exact ht5006_σ | assumption | fail) (by first | exact ht5009_σ | assumption | fail) (by first | exact ht4004_σ | assumption | fail) (by first | exact hcVL_σ | assumption | fail)) lX12_isNodeHere mX12_241 (Nat.lt_of_lt_of_le (by decide) (Nat.le_refl _)) (by decide) sc_0 rfl rfl rfl rfl dX12_anOff_2 (fun σa eσa => ?_)
  obtain ⟨eσa_a, eσa_b, eσa_c⟩ := eσa
  have eσa_a : σa 5009 = (nI (nh9 μ x L e none)) := eσa_a
  have eσa_b : σa 4004 = (if nh9 μ x L e none = 0 then p0 else nI (txS x L e)) := eσa_b
  have eσa_c : ∀ a, (a ≠ 5009 ∧ a ≠ 4004) → σa a = σ a := eσa_c
  have ht5004_σa : σa 5004 = (nI L) := by rw [eσa_c _ (by first | omega | (simp only [vb] at *; omega))]; first | exact ht5004_σ | assumption
  have ht5005_σa : σa 5005 = (nI (kr (txK x L e))) := by rw [eσa_c _ (by first | omega | (simp only [vb] at *; omega))]; first | exact ht5005_σ | assumption
  have ht5006_σa : σa 5006 = (nI (txS x L e)) := by rw [eσa_c _ (by first | omega | (simp only [vb] at *; omega))]; first | exact ht5006_σ | assumption
  have ht5007_σa : σa 5007 = (nI (txE x L e)) := by rw [eσa_c _ (by first | omega | (simp only [vb] at *; omega))]; first | exact ht5007_σ | assumption
  have ht5009_σa : σa 5009 = (nI (nh9 μ x L e none)) := eσa_a
  have ht4004_σa : σa 4004 = (if nh9 μ x L e none = 0 then p0 else nI (txS x L e)) := eσa_b
  have hcTX_σa : TX 5600 σa L x := by exact TX.fr hcTX_σ (fun a ha hb => eσa_c a (by first | omega | (simp only [vb] at *; omega)))
  have hcVL_σa : VL σa x L e := by exact VL.fr hcVL_σ (eσa_c _ (by first | omega | (simp only [vb] at *; omega)))
  have hcFR_σa : ∀ a, (464 ≤ a ∧ a ≠ 5009 ∧ a ≠ 4004 ∧ (a < 5005 ∨ 5008 < a) ∨ a = 10) → σa a = σ a := by intro a ha; exact Eq.trans (b := σ a) (eσa_c a (by first | omega | (simp only [vb] at *; omega))) (hcFR_σ a ha)
  have hvσa : vw 0 σa = μ := by rw [vw_fr (σ := σ) (fun j _ _ => eσa_c _ (by first | omega | (simp only [vb] at *; omega)))]; first | exact hv | assumption
  refine g_ifB_ne h dX12_anOff_5 (fun c5 => ?_) (fun c5 => ?_)
  ·
    have hn0 : nh9 μ x L e none = 0 := of_decide_eq_true c5
    obtain ⟨hK0, hv0, -⟩ := nh9_0 hn0
    have ht5009_σa : σa 5009 = (nI 0) := by rw [ht5009_σa, of_decide_eq_true c5]
    have ht4004_σa : σa 4004 = p0 := by rw [ht4004_σa, if_pos (of_decide_eq_true c5)]
    refine g_aload_n h dX12_anOff_10 0 rfl ?_
    refine g_aload_n h dX12_anOff_11 0 rfl ?_
    refine g_geti h dX12_anOff_12 gX12_205 sc_0 rfl ?_
    refine g_top (y := (nI (txV x L e))) (hcVL_σa hK0) ?_
    refine g_cvpi (rest := []) h (r_isOn hW (txV x L e) μ (by assumption) (by omega)) lX12_isOn mX12_114 (Nat.lt_of_lt_of_le (by decide) (Nat.le_refl _)) (by decide) sc_0 rfl rfl rfl rfl dX12_anOff_15 ?_
    refine g_ifB_ne h dX12_anOff_18 (fun c18 => ?_) (fun c18 => ?_)
    ·
      have h0 := of_af2 hK0 hv0 c18
      have hR : ar9 x L μ 4 (na9 4) 0 0 e = (0, txE x L e) := ar9_y0 (h0.trans rfl)
      refine g_aload_n h dX12_anOff_27 0 rfl ?_
      refine g_iconst h dX12_anOff_28 (by decide) ?_
      refine g_aload_n h dX12_anOff_29 0 rfl ?_
      refine g_iconst h dX12_anOff_30 (by decide) ?_
      refine g_cvpi (rest := [.int (nI 1), .ref (w.1 0)]) h (r_of hW 1 μ (by assumption) (by omega)) lX12_of mX12_61 (Nat.lt_of_lt_of_le (by decide) (Nat.le_refl _)) (by decide) sc_0 rfl rfl rfl rfl dX12_anOff_31 ?_
      refine g_iconst h dX12_anOff_34 (by decide) ?_
      refine g_aload_n h dX12_anOff_35 0 rfl ?_
      refine g_geti h dX12_anOff_36 gX12_205 sc_0 rfl ?_
      refine g_top (y := (nI (txV x L e))) (hcVL_σa hK0) ?_
      refine g_ishl h dX12_anOff_39  ?_
      refine g_top (y := bt1 (txV x L e)) rfl ?_
      refine g_iconstv h dX12_anOff_40 (v := (-1)) (by decide) ?_
      refine g_ixor h dX12_anOff_41  ?_
      refine g_top (y := nots (bt1 (txV x L e))) rfl ?_
      refine g_iand h dX12_anOff_42  ?_
      refine g_top (y := (wth (μ 1) (txV x L e) false)) rfl ?_
      refine g_cvv (rest := []) h (r_puts hW 1 (wth (μ 1) (txV x L e) false) (by omega)) lX12_puts mX12_57 (Nat.lt_of_lt_of_le (by decide) (Nat.le_refl _)) (by decide) sc_0 rfl rfl rfl rfl dX12_anOff_43 (fun σd eσd => ?_)
      have eσd_a : σd = upd σa (0 + 1) (wth (μ 1) (txV x L e) false) := eσd
      have ht5004_σd : σd 5004 = (nI L) := by rw [eσd_a, upd_ne (by first | omega | (simp only [vb] at *; omega))]; first | exact ht5004_σa | assumption
      have ht5005_σd : σd 5005 = (nI (kr (txK x L e))) := by rw [eσd_a, upd_ne (by first | omega | (simp only [vb] at *; omega))]; first | exact ht5005_σa | assumption
      have ht5006_σd : σd 5006 = (nI (txS x L e)) := by rw [eσd_a, upd_ne (by first | omega | (simp only [vb] at *; omega))]; first | exact ht5006_σa | assumption
      have ht5007_σd : σd 5007 = (nI (txE x L e)) := by rw [eσd_a, upd_ne (by first | omega | (simp only [vb] at *; omega))]; first | exact ht5007_σa | assumption
      have ht5009_σd : σd 5009 = (nI 0) := by rw [eσd_a, upd_ne (by first | omega | (simp only [vb] at *; omega))]; first | exact ht5009_σa | assumption
      have ht4004_σd : σd 4004 = p0 := by rw [eσd_a, upd_ne (by first | omega | (simp only [vb] at *; omega))]; first | exact ht4004_σa | assumption
      have hcTX_σd : TX 5600 σd L x := by rw [eσd_a]; exact TX.fr hcTX_σa (fun a ha hb => upd_ne (by first | omega | (simp only [vb] at *; omega)))
      have hcVL_σd : VL σd x L e := by rw [eσd_a]; exact VL.fr hcVL_σa (upd_ne (by first | omega | (simp only [vb] at *; omega)))
      have hcFR_σd : ∀ a, (464 ≤ a ∧ a ≠ 5009 ∧ a ≠ 4004 ∧ (a < 5005 ∨ 5008 < a) ∨ a = 10) → σd a = σ a := by intro a ha; exact Eq.trans (b := σa a) (by rw [eσd_a, upd_ne (by first | omega | (simp only [vb] at *; omega))]) (hcFR_σa a ha)
      obtain ⟨μd, eμd⟩ : ∃ μd : Nat → Int32, μd = upd μ 1 (wth (μ 1) (txV x L e) false) := ⟨_, rfl⟩
      have hvσd : vw 0 σd = μd := by rw [eσd_a, eμd, vw_in (by omega)]; congr 1
      refine g_aload_n h dX12_anOff_46 0 rfl ?_
      refine g_cvi (rest := []) h (r_takes hW (txE x L e) L x (by first | omega | assumption | fail) (by first | omega | assumption | fail) (by first | exact ht5004_σd | assumption | fail) (by first | exact ht5007_σd | assumption | fail) (by first | exact hcTX_σd | assumption | fail)) lX12_takes mX12_232 (Nat.lt_of_lt_of_le (by decide) (Nat.le_refl _)) (by decide) sc_0 rfl rfl rfl rfl dX12_anOff_47 (fun σ_1 eσ_1 => ?_)
      obtain ⟨eσ_1_a, eσ_1_b, eσ_1_c, eσ_1_d, eσ_1_e, eσ_1_f, eσ_1_g⟩ := eσ_1
      have eσ_1_a : σ_1 5004 = (nI L) := eσ_1_a
      have eσ_1_b : σ_1 5005 = (nI (kr (txK x L (txE x L e)))) := eσ_1_b
      have eσ_1_c : σ_1 5006 = (nI (txS x L (txE x L e))) := eσ_1_c
      have eσ_1_d : σ_1 5007 = (nI (txE x L (txE x L e))) := eσ_1_d
      have eσ_1_e : TX 5600 σ_1 L x := eσ_1_e
      have eσ_1_f : VL σ_1 x L (txE x L e) := eσ_1_f
      have eσ_1_g : ∀ a, (a < 5005 ∨ 5008 < a) → σ_1 a = σd a := eσ_1_g
      have ht5009_σ_1 : σ_1 5009 = (nI 0) := by rw [eσ_1_g _ (by first | omega | (simp only [vb] at *; omega))]; first | exact ht5009_σd | assumption
      have ht4004_σ_1 : σ_1 4004 = p0 := by rw [eσ_1_g _ (by first | omega | (simp only [vb] at *; omega))]; first | exact ht4004_σd | assumption
      have ht5004_σ_1 : σ_1 5004 = (nI L) := eσ_1_a
      have ht5005_σ_1 : σ_1 5005 = (nI (kr (txK x L (txE x L e)))) := eσ_1_b
      have ht5006_σ_1 : σ_1 5006 = (nI (txS x L (txE x L e))) := eσ_1_c
      have ht5007_σ_1 : σ_1 5007 = (nI (txE x L (txE x L e))) := eσ_1_d
      have hcTX_σ_1 : TX 5600 σ_1 L x := eσ_1_e
      have hcVL_σ_1 : VL σ_1 x L (txE x L e) := eσ_1_f
      have hcFR_σ_1 : ∀ a, (464 ≤ a ∧ a ≠ 5009 ∧ a ≠ 4004 ∧ (a < 5005 ∨ 5008 < a) ∨ a = 10) → σ_1 a = σ a := by intro a ha; exact Eq.trans (b := σd a) (eσ_1_g a (by first | omega | (simp only [vb] at *; omega))) (hcFR_σd a ha)
      have hvσ_1 : vw 0 σ_1 = μd := by rw [vw_fr (σ := σd) (fun j _ _ => eσ_1_g _ (by first | omega | (simp only [vb] at *; omega)))]; first | exact hvσd | assumption
      refine g_top (y := nI 1) rfl ?_
      exact g_zret h hQ dX12_anOff_50 (show narrow .boolean (.int (b2i true)) = .int (b2i true) from narrow_b2i _) (congrArg (fun z => some (Value.int (b2i z))) (show (decide ((ar9 x L μ 4 (na9 4) 0 0 e).1 = 0)) = true by rw [hR]; first | rfl | exact decide_eq_true rfl | exact decide_eq_false hf9)) (by exact ⟨(by first | exact pk_yes (by rw [hR]) (by rw [hvσ_1, eμd]; rfl) | exact pk_no (k := (ar9 x L μ 4 (na9 4) 0 0 e).1) rfl (by rw [hR]; exact hf9) hvσ_1 | fail), (by first | exact ht5004_σ_1 | assumption | fail), (by rw [hR]; exact ht5005_σ_1), (by rw [hR]; exact ht5006_σ_1), (by rw [hR]; exact ht5007_σ_1), (by rw [hR]; exact ht5009_σ_1), (by first | (rw [hR]; exact (ht4004_σ_1).trans (if_pos rfl).symm) | (rw [hR]; exact (ht4004_σ_1).trans (if_neg hf9).symm) | (rw [hR]; exact ht4004_σ_1) | fail), (by first | exact hcTX_σ_1 | assumption | fail), (by rw [hR]; exact hcVL_σ_1), (by exact hcFR_σ_1)⟩)
    ·
      have h0 := of_af2 hK0 hv0 c18
      have hf9 : 5 ≠ 0 := by decide
      have hR : ar9 x L μ 4 (na9 4) 0 0 e = (5, e) := (ar9_no (by rw [h0]; decide)).trans (by rw [h0]; rfl)
      have ht2 := tff_2 (q := 5) hK0
      refine g_aload_n h dX12_anOff_21 0 rfl ?_
      refine g_iconst h dX12_anOff_22 (by decide) ?_
      refine g_cvi (rest := []) h (r_fails hW 5 e L x (by omega) (by first | exact ht5005_σa | assumption | fail) (by first | exact ht5006_σa | assumption | fail) (by first | exact ht5009_σa | assumption | fail)) lX12_fails mX12_226 (Nat.lt_of_lt_of_le (by decide) (Nat.le_refl _)) (by decide) sc_0 rfl rfl rfl rfl dX12_anOff_23 (fun σb eσb => ?_)
      obtain ⟨eσb_a, eσb_b, eσb_c⟩ := eσb
      have eσb_a : σb 5009 = (nI (tff (txK x L e) 5)) := eσb_a
      have eσb_b : σb 4004 = (nI (txS x L e)) := eσb_b
      have eσb_c : ∀ a, (a ≠ 5009 ∧ a ≠ 4004) → σb a = σa a := eσb_c
      have ht5004_σb : σb 5004 = (nI L) := by rw [eσb_c _ (by first | omega | (simp only [vb] at *; omega))]; first | exact ht5004_σa | assumption
      have ht5005_σb : σb 5005 = (nI (kr (txK x L e))) := by rw [eσb_c _ (by first | omega | (simp only [vb] at *; omega))]; first | exact ht5005_σa | assumption
      have ht5006_σb : σb 5006 = (nI (txS x L e)) := by rw [eσb_c _ (by first | omega | (simp only [vb] at *; omega))]; first | exact ht5006_σa | assumption
      have ht5007_σb : σb 5007 = (nI (txE x L e)) := by rw [eσb_c _ (by first | omega | (simp only [vb] at *; omega))]; first | exact ht5007_σa | assumption
      have ht5009_σb : σb 5009 = (nI (tff (txK x L e) 5)) := eσb_a
      have ht4004_σb : σb 4004 = (nI (txS x L e)) := eσb_b
      have hcTX_σb : TX 5600 σb L x := by exact TX.fr hcTX_σa (fun a ha hb => eσb_c a (by first | omega | (simp only [vb] at *; omega)))
      have hcVL_σb : VL σb x L e := by exact VL.fr hcVL_σa (eσb_c _ (by first | omega | (simp only [vb] at *; omega)))
      have hcFR_σb : ∀ a, (464 ≤ a ∧ a ≠ 5009 ∧ a ≠ 4004 ∧ (a < 5005 ∨ 5008 < a) ∨ a = 10) → σb a = σ a := by intro a ha; exact Eq.trans (b := σa a) (eσb_c a (by first | omega | (simp only [vb] at *; omega))) (hcFR_σa a ha)
      have hvσb : vw 0 σb = μ := by rw [vw_fr (σ := σa) (fun j _ _ => eσb_c _ (by first | omega | (simp only [vb] at *; omega)))]; first | exact hvσa | assumption
      refine g_top (y := nI 0) rfl ?_
      have ht5009_σb : σb 5009 = (nI 5) := by rw [ht5009_σb, ht2]
      exact g_zret h hQ dX12_anOff_26 (show narrow .boolean (.int (b2i false)) = .int (b2i false) from narrow_b2i _) (congrArg (fun z => some (Value.int (b2i z))) (show (decide ((ar9 x L μ 4 (na9 4) 0 0 e).1 = 0)) = false by rw [hR]; first | rfl | exact decide_eq_true rfl | exact decide_eq_false hf9)) (by exact ⟨(by first | exact pk_yes (by rw [hR]) (by rw [hvσb, eμd]; rfl) | exact pk_no (k := (ar9 x L μ 4 (na9 4) 0 0 e).1) rfl (by rw [hR]; exact hf9) hvσb | fail), (by first | exact ht5004_σb | assumption | fail), (by rw [hR]; exact ht5005_σb), (by rw [hR]; exact ht5006_σb), (by rw [hR]; exact ht5007_σb), (by rw [hR]; exact ht5009_σb), (by first | (rw [hR]; exact (ht4004_σb).trans (if_pos rfl).symm) | (rw [hR]; exact (ht4004_σb).trans (if_neg hf9).symm) | (rw [hR]; exact ht4004_σb) | fail), (by first | exact hcTX_σb | assumption | fail), (by rw [hR]; exact hcVL_σb), (by exact hcFR_σb)⟩)
  ·
    have hf9 : nh9 μ x L e none ≠ 0 := of_decide_eq_false c5
    have hR : ar9 x L μ 4 (na9 4) 0 0 e = (nh9 μ x L e none, e) := (ar9_no (by rw [of_af hf9]; exact hf9)).trans (by rw [of_af hf9])
    refine g_iconst h dX12_anOff_8 (by decide) ?_
    exact g_zret h hQ dX12_anOff_9 (show narrow .boolean (.int (b2i false)) = .int (b2i false) from narrow_b2i _) (congrArg (fun z => some (Value.int (b2i z))) (show (decide ((ar9 x L μ 4 (na9 4) 0 0 e).1 = 0)) = false by rw [hR]; first | rfl | exact decide_eq_true rfl | exact decide_eq_false hf9)) (by exact ⟨(by first | exact pk_yes (by rw [hR]) (by rw [hvσa, eμd]; rfl) | exact pk_no (k := (ar9 x L μ 4 (na9 4) 0 0 e).1) rfl (by rw [hR]; exact hf9) hvσa | fail), (by first | exact ht5004_σa | assumption | fail), (by rw [hR]; exact ht5005_σa), (by rw [hR]; exact ht5006_σa), (by rw [hR]; exact ht5007_σa), (by rw [hR]; exact ht5009_σa), (by first | (rw [hR]; exact (ht4004_σa).trans (if_pos rfl).symm) | (rw [hR]; exact (ht4004_σa).trans (if_neg hf9).symm) | (rw [hR]; exact ht4004_σa) | fail), (by first | exact hcTX_σa | assumption | fail), (by rw [hR]; exact hcVL_σa), (by exact hcFR_σa)⟩)

set_option maxRecDepth 100000 in
set_option maxHeartbeats 4000000 in
theorem r_moreNodes {l : Launch} {w : Wd} (hW : Wi w) {σ : Mem} (e L : Nat) (x : Nat → Nat) (p0 : Int32) (μ : Nat → Int32) (he : e ≤ L) (hL : L ≤ 400) (hv : vw 0 σ = μ) (hI : MI μ) (ht5004_σ : σ 5004 = (nI L)) (ht5005_σ : σ 5005 = (nI (kr (txK x L e)))) (ht5006_σ : σ 5006 = (nI (txS x L e))) (ht5007_σ : σ 5007 = (nI (txE x L e))) (ht5009_σ : σ 5009 = (nI 0)) (ht4004_σ : σ 4004 = p0) (hcTX_σ : TX 5600 σ L x) (hcVL_σ : VL σ x L e) : MC l w qX12_moreNodes 3 [.ref (w.1 0)] σ (some (.int (b2i (decide ((ar9 x L μ 0 (na9 0) 0 0 e).1 = 0))))) (fun σ' => (vw 0 σ' = pk0 (ar9 x L μ 0 (na9 0) 0 0 e).1 (EF μ 0 (txV x L e) (txV x L (txE x L e)) (txV x L (txE x L (txE x L e)))) μ) ∧ (σ' 5004 = (nI L)) ∧ (σ' 5005 = (nI (kr (txK x L (ar9 x L μ 0 (na9 0) 0 0 e).2)))) ∧ (σ' 5006 = (nI (txS x L (ar9 x L μ 0 (na9 0) 0 0 e).2))) ∧ (σ' 5007 = (nI (txE x L (ar9 x L μ 0 (na9 0) 0 0 e).2))) ∧ (σ' 5009 = (nI ((ar9 x L μ 0 (na9 0) 0 0 e).1))) ∧ (σ' 4004 = (if (ar9 x L μ 0 (na9 0) 0 0 e).1 = 0 then p0 else nI (txS x L (ar9 x L μ 0 (na9 0) 0 0 e).2))) ∧ (TX 5600 σ' L x) ∧ (VL σ' x L (ar9 x L μ 0 (na9 0) 0 0 e).2) ∧ (∀ a, (464 ≤ a ∧ a ≠ 5009 ∧ a ≠ 4004 ∧ (a < 5005 ∨ 5008 < a) ∨ a = 10) → σ' a = σ a)) := by
  refine MC.of hW (by decide +kernel) (Nat.le_of_ble_eq_true rfl) (fun X h hQ hnm => ?_)
  have h : Fx X w cX12_moreNodes 2 RX12 3 := h
  have hQ : Qx X w (some .boolean) (some (.int (b2i (decide ((ar9 x L μ 0 (na9 0) 0 0 e).1 = 0))))) (fun σ' => (vw 0 σ' = pk0 (ar9 x L μ 0 (na9 0) 0 0 e).1 (EF μ 0 (txV x L e) (txV x L (txE x L e)) (txV x L (txE x L (txE x L e)))) μ) ∧ (σ' 5004 = (nI L)) ∧ (σ' 5005 = (nI (kr (txK x L (ar9 x L μ 0 (na9 0) 0 0 e).2)))) ∧ (σ' 5006 = (nI (txS x L (ar9 x L μ 0 (na9 0) 0 0 e).2))) ∧ (σ' 5007 = (nI (txE x L (ar9 x L μ 0 (na9 0) 0 0 e).2))) ∧ (σ' 5009 = (nI ((ar9 x L μ 0 (na9 0) 0 0 e).1))) ∧ (σ' 4004 = (if (ar9 x L μ 0 (na9 0) 0 0 e).1 = 0 then p0 else nI (txS x L (ar9 x L μ 0 (na9 0) 0 0 e).2))) ∧ (TX 5600 σ' L x) ∧ (VL σ' x L (ar9 x L μ 0 (na9 0) 0 0 e).2) ∧ (∀ a, (464 ≤ a ∧ a ≠ 5009 ∧ a ≠ 4004 ∧ (a < 5005 ∨ 5008 < a) ∨ a = 10) → σ' a = σ a)) := hQ
  have hN8 := mi_8 hI
  have h5 := (kr_i (x := x) (L := L) (e := e)).2.2.2.2.2
  have hb := tx_b (x := x) he
  have hcFR_σ : ∀ a, (464 ≤ a ∧ a ≠ 5009 ∧ a ≠ 4004 ∧ (a < 5005 ∨ 5008 < a) ∨ a = 10) → σ a = σ a := fun _ _ => rfl
  show G X w 2 0 [(0, .ref (w.1 0))] [] σ
  refine g_aload_n h dX12_moreNodes_0 0 rfl ?_
  refine g_iconst h dX12_moreNodes_1 (by decide) ?_
  refine g_bipush h dX12_moreNodes_2 (by decide) ?_
  refine g_cvi (rest := []) h (r_isNumber hW 1 8 e L x p0 (by omega) (by omega) (by first | exact ht5005_σ | assumption | fail) (by first | exact ht5006_σ | assumption | fail) (by first | exact ht5009_σ | assumption | fail) (by first | exact ht4004_σ | assumption | fail) (by first | exact hcVL_σ | assumption | fail)) lX12_isNumber mX12_235 (Nat.lt_of_lt_of_le (by decide) (Nat.le_refl _)) (by decide) sc_0 rfl rfl rfl rfl dX12_moreNodes_4 (fun σa eσa => ?_)
  obtain ⟨eσa_a, eσa_b, eσa_c⟩ := eσa
  have eσa_a : σa 5009 = (nI (nf9 x L e 1 8)) := eσa_a
  have eσa_b : σa 4004 = (if nf9 x L e 1 8 = 0 then p0 else nI (txS x L e)) := eσa_b
  have eσa_c : ∀ a, (a ≠ 5009 ∧ a ≠ 4004) → σa a = σ a := eσa_c
  have ht5004_σa : σa 5004 = (nI L) := by rw [eσa_c _ (by first | omega | (simp only [vb] at *; omega))]; first | exact ht5004_σ | assumption
  have ht5005_σa : σa 5005 = (nI (kr (txK x L e))) := by rw [eσa_c _ (by first | omega | (simp only [vb] at *; omega))]; first | exact ht5005_σ | assumption
  have ht5006_σa : σa 5006 = (nI (txS x L e)) := by rw [eσa_c _ (by first | omega | (simp only [vb] at *; omega))]; first | exact ht5006_σ | assumption
  have ht5007_σa : σa 5007 = (nI (txE x L e)) := by rw [eσa_c _ (by first | omega | (simp only [vb] at *; omega))]; first | exact ht5007_σ | assumption
  have ht5009_σa : σa 5009 = (nI (nf9 x L e 1 8)) := eσa_a
  have ht4004_σa : σa 4004 = (if nf9 x L e 1 8 = 0 then p0 else nI (txS x L e)) := eσa_b
  have hcTX_σa : TX 5600 σa L x := by exact TX.fr hcTX_σ (fun a ha hb => eσa_c a (by first | omega | (simp only [vb] at *; omega)))
  have hcVL_σa : VL σa x L e := by exact VL.fr hcVL_σ (eσa_c _ (by first | omega | (simp only [vb] at *; omega)))
  have hcFR_σa : ∀ a, (464 ≤ a ∧ a ≠ 5009 ∧ a ≠ 4004 ∧ (a < 5005 ∨ 5008 < a) ∨ a = 10) → σa a = σ a := by intro a ha; exact Eq.trans (b := σ a) (eσa_c a (by first | omega | (simp only [vb] at *; omega))) (hcFR_σ a ha)
  have hvσa : vw 0 σa = μ := by rw [vw_fr (σ := σ) (fun j _ _ => eσa_c _ (by first | omega | (simp only [vb] at *; omega)))]; first | exact hv | assumption
  refine g_ifB_ne h dX12_moreNodes_7 (fun c7 => ?_) (fun c7 => ?_)
  ·
    obtain ⟨hK0, hv0, h0⟩ := no_af2 (μ := μ) (of_decide_eq_true c7)
    have ht5009_σa : σa 5009 = (nI 0) := by rw [ht5009_σa, of_decide_eq_true c7]
    have ht4004_σa : σa 4004 = p0 := by rw [ht4004_σa, if_pos (of_decide_eq_true c7)]
    refine g_aload_n h dX12_moreNodes_12 0 rfl ?_
    refine g_iconst h dX12_moreNodes_13 (by decide) ?_
    refine g_cvpi (rest := []) h (r_of hW 0 μ (by assumption) (by omega)) lX12_of mX12_61 (Nat.lt_of_lt_of_le (by decide) (Nat.le_refl _)) (by decide) sc_0 rfl rfl rfl rfl dX12_moreNodes_14 ?_
    refine g_top (y := nI (nN μ)) (mi_0 (by assumption)) ?_
    refine g_aload_n h dX12_moreNodes_17 0 rfl ?_
    refine g_geti h dX12_moreNodes_18 gX12_205 sc_0 rfl ?_
    refine g_top (y := (nI (txV x L e))) (hcVL_σa hK0) ?_
    refine g_iaddN h dX12_moreNodes_21  ?_
    refine g_bipush h dX12_moreNodes_22 (by decide) ?_
    refine g_icmpN_le h dX12_moreNodes_24 (by omega) (by omega) (fun c24 => ?_) (fun c24 => ?_)
    ·
      rw [if_neg (by omega)] at h0
      have hR : ar9 x L μ 0 (na9 0) 0 0 e = (0, txE x L e) := ar9_y0 h0
      refine g_iconst h dX12_moreNodes_34 (by decide) ?_
      refine g_istore_n (L' := [(0, .ref (w.1 0)), (1, .int (nI 0))]) h dX12_moreNodes_35 rfl (by decide) rfl ?_
      have lp36 : ∀ (k9 : Nat) (i : Nat) (μ1 : Nat → Int32) (τ : Mem), (i ≤ txV x L e) → (μ1 = nod9 μ i) → (vw 0 τ = μ1) → (τ 5004 = (nI L)) → (τ 5005 = (nI (kr (txK x L e)))) → (τ 5006 = (nI (txS x L e))) → (τ 5007 = (nI (txE x L e))) → (τ 5009 = (nI 0)) → (τ 4004 = p0) → (TX 5600 τ L x) → (VL τ x L e) → (∀ a, (464 ≤ a ∧ a ≠ 5009 ∧ a ≠ 4004 ∧ (a < 5005 ∨ 5008 < a) ∨ a = 10) → τ a = σ a) → txV x L e - i < k9 → G X w 2 36 [(0, .ref (w.1 0)), (1, .int (nI i))] [] (τ) := by
        intro k9
        induction k9 with
        | zero => intro i μ1 τ hi hμ hvτ ht5004_τ ht5005_τ ht5006_τ ht5007_τ ht5009_τ ht4004_τ hcTX_τ hcVL_τ hcFR_τ hm9; exact absurd hm9 (Nat.not_lt_zero _)
        | succ k9 ih36 =>
          intro i μ1 τ hi hμ hvτ ht5004_τ ht5005_τ ht5006_τ ht5007_τ ht5009_τ ht4004_τ hcTX_τ hcVL_τ hcFR_τ hm36
          obtain ⟨hm1, hm2⟩ := nod_mi hI i (by omega)
          rw [← hμ] at hm1 hm2
          refine g_iload_n h dX12_moreNodes_36 1 rfl ?_
          refine g_aload_n h dX12_moreNodes_37 0 rfl ?_
          refine g_geti h dX12_moreNodes_38 gX12_205 sc_0 rfl ?_
          refine g_top (y := (nI (txV x L e))) (hcVL_τ hK0) ?_
          refine g_icmpN_ge h dX12_moreNodes_41 (by omega) (by omega) (fun c41 => ?_) (fun c41 => ?_)
          ·
            refine g_aload_n h dX12_moreNodes_56 0 rfl ?_
            refine g_cvi (rest := []) h (r_takes hW (txE x L e) L x (by first | omega | assumption | fail) (by first | omega | assumption | fail) (by first | exact ht5004_τ | assumption | fail) (by first | exact ht5007_τ | assumption | fail) (by first | exact hcTX_τ | assumption | fail)) lX12_takes mX12_232 (Nat.lt_of_lt_of_le (by decide) (Nat.le_refl _)) (by decide) sc_0 rfl rfl rfl rfl dX12_moreNodes_57 (fun σ_1 eσ_1 => ?_)
            obtain ⟨eσ_1_a, eσ_1_b, eσ_1_c, eσ_1_d, eσ_1_e, eσ_1_f, eσ_1_g⟩ := eσ_1
            have eσ_1_a : σ_1 5004 = (nI L) := eσ_1_a
            have eσ_1_b : σ_1 5005 = (nI (kr (txK x L (txE x L e)))) := eσ_1_b
            have eσ_1_c : σ_1 5006 = (nI (txS x L (txE x L e))) := eσ_1_c
            have eσ_1_d : σ_1 5007 = (nI (txE x L (txE x L e))) := eσ_1_d
            have eσ_1_e : TX 5600 σ_1 L x := eσ_1_e
            have eσ_1_f : VL σ_1 x L (txE x L e) := eσ_1_f
            have eσ_1_g : ∀ a, (a < 5005 ∨ 5008 < a) → σ_1 a = (τ) a := eσ_1_g
            have ht5009_σ_1 : σ_1 5009 = (nI 0) := by rw [eσ_1_g _ (by first | omega | (simp only [vb] at *; omega))]; first | exact ht5009_τ | assumption
            have ht4004_σ_1 : σ_1 4004 = p0 := by rw [eσ_1_g _ (by first | omega | (simp only [vb] at *; omega))]; first | exact ht4004_τ | assumption
            have ht5004_σ_1 : σ_1 5004 = (nI L) := eσ_1_a
            have ht5005_σ_1 : σ_1 5005 = (nI (kr (txK x L (txE x L e)))) := eσ_1_b
            have ht5006_σ_1 : σ_1 5006 = (nI (txS x L (txE x L e))) := eσ_1_c
            have ht5007_σ_1 : σ_1 5007 = (nI (txE x L (txE x L e))) := eσ_1_d
            have hcTX_σ_1 : TX 5600 σ_1 L x := eσ_1_e
            have hcVL_σ_1 : VL σ_1 x L (txE x L e) := eσ_1_f
            have hcFR_σ_1 : ∀ a, (464 ≤ a ∧ a ≠ 5009 ∧ a ≠ 4004 ∧ (a < 5005 ∨ 5008 < a) ∨ a = 10) → σ_1 a = σ a := by intro a ha; exact Eq.trans (b := (τ) a) (eσ_1_g a (by first | omega | (simp only [vb] at *; omega))) (hcFR_τ a ha)
            have hvσ_1 : vw 0 σ_1 = μ1 := by rw [vw_fr (σ := (τ)) (fun j _ _ => eσ_1_g _ (by first | omega | (simp only [vb] at *; omega)))]; first | exact hvτ | assumption
            refine g_top (y := nI 1) rfl ?_
            exact g_zret h hQ dX12_moreNodes_60 (show narrow .boolean (.int (b2i true)) = .int (b2i true) from narrow_b2i _) (congrArg (fun z => some (Value.int (b2i z))) (show (decide ((ar9 x L μ 0 (na9 0) 0 0 e).1 = 0)) = true by rw [hR]; first | rfl | exact decide_eq_true rfl | exact decide_eq_false hf9)) (by exact ⟨(by first | exact pk_yes (by rw [hR]) (by rw [hvσ_1, hμ, show i = txV x L e from by omega]; rfl) | exact pk_no (k := (ar9 x L μ 0 (na9 0) 0 0 e).1) rfl (by rw [hR]; exact hf9) hvσ_1 | fail), (by first | exact ht5004_σ_1 | assumption | fail), (by rw [hR]; exact ht5005_σ_1), (by rw [hR]; exact ht5006_σ_1), (by rw [hR]; exact ht5007_σ_1), (by rw [hR]; exact ht5009_σ_1), (by first | (rw [hR]; exact (ht4004_σ_1).trans (if_pos rfl).symm) | (rw [hR]; exact (ht4004_σ_1).trans (if_neg hf9).symm) | (rw [hR]; exact ht4004_σ_1) | fail), (by first | exact hcTX_σ_1 | assumption | fail), (by rw [hR]; exact hcVL_σ_1), (by exact hcFR_σ_1)⟩)
          ·
            refine g_aload_n h dX12_moreNodes_44 0 rfl ?_
            refine g_iconst h dX12_moreNodes_45 (by decide) ?_
            refine g_cvi (rest := []) h (r_comes hW 3 μ1 (by first | exact hvτ | assumption | fail) (by exact hm1) (by omega)) lX12_comes mX12_238 (Nat.lt_of_lt_of_le (by decide) (Nat.le_refl _)) (by decide) sc_0 rfl rfl rfl rfl dX12_moreNodes_46 (fun σ_2 eσ_2 => ?_)
            obtain ⟨eσ_2_a, eσ_2_b⟩ := eσ_2
            have eσ_2_a : vw 0 σ_2 = upd (upd (upd μ1 (16 + nN μ1) (nI 3)) 1 (μ1 1 ||| bt1 (nN μ1))) 0 (nI (nN μ1 + 1)) := eσ_2_a
            have eσ_2_b : ∀ a, (464 ≤ a ∨ a = 10) → σ_2 a = (τ) a := eσ_2_b
            have ht5004_σ_2 : σ_2 5004 = (nI L) := by rw [eσ_2_b _ (by first | omega | (simp only [vb] at *; omega))]; first | exact ht5004_τ | assumption
            have ht5005_σ_2 : σ_2 5005 = (nI (kr (txK x L e))) := by rw [eσ_2_b _ (by first | omega | (simp only [vb] at *; omega))]; first | exact ht5005_τ | assumption
            have ht5006_σ_2 : σ_2 5006 = (nI (txS x L e)) := by rw [eσ_2_b _ (by first | omega | (simp only [vb] at *; omega))]; first | exact ht5006_τ | assumption
            have ht5007_σ_2 : σ_2 5007 = (nI (txE x L e)) := by rw [eσ_2_b _ (by first | omega | (simp only [vb] at *; omega))]; first | exact ht5007_τ | assumption
            have ht5009_σ_2 : σ_2 5009 = (nI 0) := by rw [eσ_2_b _ (by first | omega | (simp only [vb] at *; omega))]; first | exact ht5009_τ | assumption
            have ht4004_σ_2 : σ_2 4004 = p0 := by rw [eσ_2_b _ (by first | omega | (simp only [vb] at *; omega))]; first | exact ht4004_τ | assumption
            have hcTX_σ_2 : TX 5600 σ_2 L x := by exact TX.fr hcTX_τ (fun a ha hb => eσ_2_b a (by first | omega | (simp only [vb] at *; omega)))
            have hcVL_σ_2 : VL σ_2 x L e := by exact VL.fr hcVL_τ (eσ_2_b _ (by first | omega | (simp only [vb] at *; omega)))
            have hcFR_σ_2 : ∀ a, (464 ≤ a ∧ a ≠ 5009 ∧ a ≠ 4004 ∧ (a < 5005 ∨ 5008 < a) ∨ a = 10) → σ_2 a = σ a := by intro a ha; exact Eq.trans (b := (τ) a) (eσ_2_b a (by first | omega | (simp only [vb] at *; omega))) (hcFR_τ a ha)
            obtain ⟨μ_3, eμ_3⟩ : ∃ μ_3 : Nat → Int32, μ_3 = upd (upd (upd μ1 (16 + nN μ1) (nI 3)) 1 (μ1 1 ||| bt1 (nN μ1))) 0 (nI (nN μ1 + 1)) := ⟨_, rfl⟩
            have hvσ_2 : vw 0 σ_2 = μ_3 := by rw [eμ_3]; exact eσ_2_a
            refine g_pop h dX12_moreNodes_49 rfl ?_
            refine g_iincN (b := 1) (L' := [(0, .ref (w.1 0)), (1, .int (nI (i + 1)))]) h dX12_moreNodes_50 1 rfl rfl (by decide) (by decide) rfl ?_
            refine g_goto h dX12_moreNodes_53 ?_
            exact ih36 (i + 1) μ_3 σ_2 (by omega) (by rw [eμ_3]; rw [show nod9 μ (i + 1) = adn (nod9 μ i) from rfl, ← hμ]; rfl) (by first | exact hvσ_2 | assumption | fail | fail) (by first | exact ht5004_σ_2 | assumption | fail | fail) (by first | exact ht5005_σ_2 | assumption | fail | fail) (by first | exact ht5006_σ_2 | assumption | fail | fail) (by first | exact ht5007_σ_2 | assumption | fail | fail) (by first | exact ht5009_σ_2 | assumption | fail | fail) (by first | exact ht4004_σ_2 | assumption | fail | fail) (by first | exact hcTX_σ_2 | assumption | fail | fail) (by first | exact hcVL_σ_2 | assumption | fail | fail) (by first | exact hcFR_σ_2 | assumption | fail | fail) (by omega)
      exact lp36 (_) 0 μ σa (by omega) (by rfl) (by first | exact hvσa | assumption | fail | fail) (by first | exact ht5004_σa | assumption | fail | fail) (by first | exact ht5005_σa | assumption | fail | fail) (by first | exact ht5006_σa | assumption | fail | fail) (by first | exact ht5007_σa | assumption | fail | fail) (by first | exact ht5009_σa | assumption | fail | fail) (by first | exact ht4004_σa | assumption | fail | fail) (by first | exact hcTX_σa | assumption | fail | fail) (by first | exact hcVL_σa | assumption | fail | fail) (by first | exact hcFR_σa | assumption | fail | fail) (Nat.lt_succ_self _)
    ·
      rw [if_pos (by omega)] at h0
      have hf9 : 6 ≠ 0 := by decide
      have hR : ar9 x L μ 0 (na9 0) 0 0 e = (6, e) := (ar9_no (by rw [h0]; decide)).trans (by rw [h0])
      have ht2 := tff_2 (q := 6) hK0
      refine g_aload_n h dX12_moreNodes_27 0 rfl ?_
      refine g_bipush h dX12_moreNodes_28 (by decide) ?_
      refine g_cvi (rest := []) h (r_fails hW 6 e L x (by omega) (by first | exact ht5005_σa | assumption | fail) (by first | exact ht5006_σa | assumption | fail) (by first | exact ht5009_σa | assumption | fail)) lX12_fails mX12_226 (Nat.lt_of_lt_of_le (by decide) (Nat.le_refl _)) (by decide) sc_0 rfl rfl rfl rfl dX12_moreNodes_30 (fun σb eσb => ?_)
      obtain ⟨eσb_a, eσb_b, eσb_c⟩ := eσb
      have eσb_a : σb 5009 = (nI (tff (txK x L e) 6)) := eσb_a
      have eσb_b : σb 4004 = (nI (txS x L e)) := eσb_b
      have eσb_c : ∀ a, (a ≠ 5009 ∧ a ≠ 4004) → σb a = σa a := eσb_c
      have ht5004_σb : σb 5004 = (nI L) := by rw [eσb_c _ (by first | omega | (simp only [vb] at *; omega))]; first | exact ht5004_σa | assumption
      have ht5005_σb : σb 5005 = (nI (kr (txK x L e))) := by rw [eσb_c _ (by first | omega | (simp only [vb] at *; omega))]; first | exact ht5005_σa | assumption
      have ht5006_σb : σb 5006 = (nI (txS x L e)) := by rw [eσb_c _ (by first | omega | (simp only [vb] at *; omega))]; first | exact ht5006_σa | assumption
      have ht5007_σb : σb 5007 = (nI (txE x L e)) := by rw [eσb_c _ (by first | omega | (simp only [vb] at *; omega))]; first | exact ht5007_σa | assumption
      have ht5009_σb : σb 5009 = (nI (tff (txK x L e) 6)) := eσb_a
      have ht4004_σb : σb 4004 = (nI (txS x L e)) := eσb_b
      have hcTX_σb : TX 5600 σb L x := by exact TX.fr hcTX_σa (fun a ha hb => eσb_c a (by first | omega | (simp only [vb] at *; omega)))
      have hcVL_σb : VL σb x L e := by exact VL.fr hcVL_σa (eσb_c _ (by first | omega | (simp only [vb] at *; omega)))
      have hcFR_σb : ∀ a, (464 ≤ a ∧ a ≠ 5009 ∧ a ≠ 4004 ∧ (a < 5005 ∨ 5008 < a) ∨ a = 10) → σb a = σ a := by intro a ha; exact Eq.trans (b := σa a) (eσb_c a (by first | omega | (simp only [vb] at *; omega))) (hcFR_σa a ha)
      have hvσb : vw 0 σb = μ := by rw [vw_fr (σ := σa) (fun j _ _ => eσb_c _ (by first | omega | (simp only [vb] at *; omega)))]; first | exact hvσa | assumption
      refine g_top (y := nI 0) rfl ?_
      have ht5009_σb : σb 5009 = (nI 6) := by rw [ht5009_σb, ht2]
      exact g_zret h hQ dX12_moreNodes_33 (show narrow .boolean (.int (b2i false)) = .int (b2i false) from narrow_b2i _) (congrArg (fun z => some (Value.int (b2i z))) (show (decide ((ar9 x L μ 0 (na9 0) 0 0 e).1 = 0)) = false by rw [hR]; first | rfl | exact decide_eq_true rfl | exact decide_eq_false hf9)) (by exact ⟨(by first | exact pk_yes (by rw [hR]) (by rw [hvσb, hμ, show i = txV x L e from by omega]; rfl) | exact pk_no (k := (ar9 x L μ 0 (na9 0) 0 0 e).1) rfl (by rw [hR]; exact hf9) hvσb | fail), (by first | exact ht5004_σb | assumption | fail), (by rw [hR]; exact ht5005_σb), (by rw [hR]; exact ht5006_σb), (by rw [hR]; exact ht5007_σb), (by rw [hR]; exact ht5009_σb), (by first | (rw [hR]; exact (ht4004_σb).trans (if_pos rfl).symm) | (rw [hR]; exact (ht4004_σb).trans (if_neg hf9).symm) | (rw [hR]; exact ht4004_σb) | fail), (by first | exact hcTX_σb | assumption | fail), (by rw [hR]; exact hcVL_σb), (by exact hcFR_σb)⟩)
  ·
    have hf9 : nf9 x L e 1 8 ≠ 0 := of_decide_eq_false c7
    have h0 := no_af (μ := μ) hf9
    have hR : ar9 x L μ 0 (na9 0) 0 0 e = (nf9 x L e 1 8, e) := (ar9_no (by rw [h0]; exact hf9)).trans (by rw [h0])
    refine g_iconst h dX12_moreNodes_10 (by decide) ?_
    exact g_zret h hQ dX12_moreNodes_11 (show narrow .boolean (.int (b2i false)) = .int (b2i false) from narrow_b2i _) (congrArg (fun z => some (Value.int (b2i z))) (show (decide ((ar9 x L μ 0 (na9 0) 0 0 e).1 = 0)) = false by rw [hR]; first | rfl | exact decide_eq_true rfl | exact decide_eq_false hf9)) (by exact ⟨(by first | exact pk_yes (by rw [hR]) (by rw [hvσa, hμ, show i = txV x L e from by omega]; rfl) | exact pk_no (k := (ar9 x L μ 0 (na9 0) 0 0 e).1) rfl (by rw [hR]; exact hf9) hvσa | fail), (by first | exact ht5004_σa | assumption | fail), (by rw [hR]; exact ht5005_σa), (by rw [hR]; exact ht5006_σa), (by rw [hR]; exact ht5007_σa), (by rw [hR]; exact ht5009_σa), (by first | (rw [hR]; exact (ht4004_σa).trans (if_pos rfl).symm) | (rw [hR]; exact (ht4004_σa).trans (if_neg hf9).symm) | (rw [hR]; exact ht4004_σa) | fail), (by first | exact hcTX_σa | assumption | fail), (by rw [hR]; exact hcVL_σa), (by exact hcFR_σa)⟩)

theorem ti_na {k tw tm : Nat} (h : (k = 5 ∧ tw = 3 ∧ tm = 9) ∨ (k = 6 ∧ tw = 4 ∧ tm = 99)) : na9 k = 1 := by
  rcases h with ⟨rfl, -, -⟩ | ⟨rfl, -, -⟩ <;> rfl
theorem ti_af {x : Nat → Nat} {L e k tw tm : Nat} {μ : Nat → Int32} (h : (k = 5 ∧ tw = 3 ∧ tm = 9) ∨ (k = 6 ∧ tw = 4 ∧ tm = 99)) : af9 x L μ k 0 0 e = nf9 x L e 1 tm := by
  rcases h with ⟨rfl, -, rfl⟩ | ⟨rfl, -, rfl⟩
  · exact nf_af (fun v => rfl)
  · exact nf_af (fun v => rfl)
theorem ti_ef {k tw tm a b c : Nat} {μ : Nat → Int32} (h : (k = 5 ∧ tw = 3 ∧ tm = 9) ∨ (k = 6 ∧ tw = 4 ∧ tm = 99)) : EF μ k a b c = upd μ tw (nI a) := by
  rcases h with ⟨rfl, rfl, -⟩ | ⟨rfl, rfl, -⟩ <;> rfl

set_option maxRecDepth 100000 in
set_option maxHeartbeats 4000000 in
theorem r_aTime {l : Launch} {w : Wd} (hW : Wi w) {σ : Mem} (tw tm k : Nat) (e L : Nat) (x : Nat → Nat) (p0 : Int32) (μ : Nat → Int32) (he : e ≤ L) (hL : L ≤ 400) (hv : vw 0 σ = μ) (hI : MI μ) (hk9 : (k = 5 ∧ tw = 3 ∧ tm = 9) ∨ (k = 6 ∧ tw = 4 ∧ tm = 99)) (ht5004_σ : σ 5004 = (nI L)) (ht5005_σ : σ 5005 = (nI (kr (txK x L e)))) (ht5006_σ : σ 5006 = (nI (txS x L e))) (ht5007_σ : σ 5007 = (nI (txE x L e))) (ht5009_σ : σ 5009 = (nI 0)) (ht4004_σ : σ 4004 = p0) (hcTX_σ : TX 5600 σ L x) (hcVL_σ : VL σ x L e) : MC l w qX12_aTime 3 [.ref (w.1 0), .int (nI tw), .int (nI tm)] σ (some (.int (b2i (decide ((ar9 x L μ k (na9 k) 0 0 e).1 = 0))))) (fun σ' => (vw 0 σ' = pk0 (ar9 x L μ k (na9 k) 0 0 e).1 (EF μ k (txV x L e) (txV x L (txE x L e)) (txV x L (txE x L (txE x L e)))) μ) ∧ (σ' 5004 = (nI L)) ∧ (σ' 5005 = (nI (kr (txK x L (ar9 x L μ k (na9 k) 0 0 e).2)))) ∧ (σ' 5006 = (nI (txS x L (ar9 x L μ k (na9 k) 0 0 e).2))) ∧ (σ' 5007 = (nI (txE x L (ar9 x L μ k (na9 k) 0 0 e).2))) ∧ (σ' 5009 = (nI ((ar9 x L μ k (na9 k) 0 0 e).1))) ∧ (σ' 4004 = (if (ar9 x L μ k (na9 k) 0 0 e).1 = 0 then p0 else nI (txS x L (ar9 x L μ k (na9 k) 0 0 e).2))) ∧ (TX 5600 σ' L x) ∧ (VL σ' x L (ar9 x L μ k (na9 k) 0 0 e).2) ∧ (∀ a, (464 ≤ a ∧ a ≠ 5009 ∧ a ≠ 4004 ∧ (a < 5005 ∨ 5008 < a) ∨ a = 10) → σ' a = σ a)) := by
  refine MC.of hW (by decide +kernel) (Nat.le_of_ble_eq_true rfl) (fun X h hQ hnm => ?_)
  have h : Fx X w cX12_aTime 3 RX12 3 := h
  have hQ : Qx X w (some .boolean) (some (.int (b2i (decide ((ar9 x L μ k (na9 k) 0 0 e).1 = 0))))) (fun σ' => (vw 0 σ' = pk0 (ar9 x L μ k (na9 k) 0 0 e).1 (EF μ k (txV x L e) (txV x L (txE x L e)) (txV x L (txE x L (txE x L e)))) μ) ∧ (σ' 5004 = (nI L)) ∧ (σ' 5005 = (nI (kr (txK x L (ar9 x L μ k (na9 k) 0 0 e).2)))) ∧ (σ' 5006 = (nI (txS x L (ar9 x L μ k (na9 k) 0 0 e).2))) ∧ (σ' 5007 = (nI (txE x L (ar9 x L μ k (na9 k) 0 0 e).2))) ∧ (σ' 5009 = (nI ((ar9 x L μ k (na9 k) 0 0 e).1))) ∧ (σ' 4004 = (if (ar9 x L μ k (na9 k) 0 0 e).1 = 0 then p0 else nI (txS x L (ar9 x L μ k (na9 k) 0 0 e).2))) ∧ (TX 5600 σ' L x) ∧ (VL σ' x L (ar9 x L μ k (na9 k) 0 0 e).2) ∧ (∀ a, (464 ≤ a ∧ a ≠ 5009 ∧ a ≠ 4004 ∧ (a < 5005 ∨ 5008 < a) ∨ a = 10) → σ' a = σ a)) := hQ
  have hN8 := mi_8 hI
  have h5 := (kr_i (x := x) (L := L) (e := e)).2.2.2.2.2
  have hb := tx_b (x := x) he
  have hcFR_σ : ∀ a, (464 ≤ a ∧ a ≠ 5009 ∧ a ≠ 4004 ∧ (a < 5005 ∨ 5008 < a) ∨ a = 10) → σ a = σ a := fun _ _ => rfl
  show G X w 3 0 [(0, .ref (w.1 0)), (1, .int (nI tw)), (2, .int (nI tm))] [] σ
  refine g_aload_n h dX12_aTime_0 0 rfl ?_
  refine g_iconst h dX12_aTime_1 (by decide) ?_
  refine g_iload_n h dX12_aTime_2 2 rfl ?_
  refine g_cvi (rest := []) h (r_isNumber hW 1 tm e L x p0 (by omega) (by omega) (by first | exact ht5005_σ | assumption | fail) (by first | exact ht5006_σ | assumption | fail) (by first | exact ht5009_σ | assumption | fail) (by first | exact ht4004_σ | assumption | fail) (by first | exact hcVL_σ | assumption | fail)) lX12_isNumber mX12_235 (Nat.lt_of_lt_of_le (by decide) (Nat.le_refl _)) (by decide) sc_0 rfl rfl rfl rfl dX12_aTime_3 (fun σa eσa => ?_)
  obtain ⟨eσa_a, eσa_b, eσa_c⟩ := eσa
  have eσa_a : σa 5009 = (nI (nf9 x L e 1 tm)) := eσa_a
  have eσa_b : σa 4004 = (if nf9 x L e 1 tm = 0 then p0 else nI (txS x L e)) := eσa_b
  have eσa_c : ∀ a, (a ≠ 5009 ∧ a ≠ 4004) → σa a = σ a := eσa_c
  have ht5004_σa : σa 5004 = (nI L) := by rw [eσa_c _ (by first | omega | (simp only [vb] at *; omega))]; first | exact ht5004_σ | assumption
  have ht5005_σa : σa 5005 = (nI (kr (txK x L e))) := by rw [eσa_c _ (by first | omega | (simp only [vb] at *; omega))]; first | exact ht5005_σ | assumption
  have ht5006_σa : σa 5006 = (nI (txS x L e)) := by rw [eσa_c _ (by first | omega | (simp only [vb] at *; omega))]; first | exact ht5006_σ | assumption
  have ht5007_σa : σa 5007 = (nI (txE x L e)) := by rw [eσa_c _ (by first | omega | (simp only [vb] at *; omega))]; first | exact ht5007_σ | assumption
  have ht5009_σa : σa 5009 = (nI (nf9 x L e 1 tm)) := eσa_a
  have ht4004_σa : σa 4004 = (if nf9 x L e 1 tm = 0 then p0 else nI (txS x L e)) := eσa_b
  have hcTX_σa : TX 5600 σa L x := by exact TX.fr hcTX_σ (fun a ha hb => eσa_c a (by first | omega | (simp only [vb] at *; omega)))
  have hcVL_σa : VL σa x L e := by exact VL.fr hcVL_σ (eσa_c _ (by first | omega | (simp only [vb] at *; omega)))
  have hcFR_σa : ∀ a, (464 ≤ a ∧ a ≠ 5009 ∧ a ≠ 4004 ∧ (a < 5005 ∨ 5008 < a) ∨ a = 10) → σa a = σ a := by intro a ha; exact Eq.trans (b := σ a) (eσa_c a (by first | omega | (simp only [vb] at *; omega))) (hcFR_σ a ha)
  have hvσa : vw 0 σa = μ := by rw [vw_fr (σ := σ) (fun j _ _ => eσa_c _ (by first | omega | (simp only [vb] at *; omega)))]; first | exact hv | assumption
  refine g_ifB_ne h dX12_aTime_6 (fun c6 => ?_) (fun c6 => ?_)
  ·
    have h0 : af9 x L μ k 0 0 e = 0 := (ti_af hk9).trans (of_decide_eq_true c6)
    have hK0 := (af9_0 h0).1
    have hna : na9 k = 1 := ti_na hk9
    have hR : ar9 x L μ k (na9 k) 0 0 e = (0, txE x L e) := by rw [hna]; exact ar9_y0 h0
    have ht5009_σa : σa 5009 = (nI 0) := by rw [ht5009_σa, of_decide_eq_true c6]
    have ht4004_σa : σa 4004 = p0 := by rw [ht4004_σa, if_pos (of_decide_eq_true c6)]
    refine g_aload_n h dX12_aTime_11 0 rfl ?_
    refine g_iload_n h dX12_aTime_12 1 rfl ?_
    refine g_aload_n h dX12_aTime_13 0 rfl ?_
    refine g_geti h dX12_aTime_14 gX12_205 sc_0 rfl ?_
    refine g_top (y := (nI (txV x L e))) (hcVL_σa hK0) ?_
    refine g_cvv (rest := []) h (r_puts hW tw (nI (txV x L e)) (by omega)) lX12_puts mX12_57 (Nat.lt_of_lt_of_le (by decide) (Nat.le_refl _)) (by decide) sc_0 rfl rfl rfl rfl dX12_aTime_17 (fun σd eσd => ?_)
    have eσd_a : σd = upd σa (0 + tw) (nI (txV x L e)) := eσd
    have ht5004_σd : σd 5004 = (nI L) := by rw [eσd_a, upd_ne (by first | omega | (simp only [vb] at *; omega))]; first | exact ht5004_σa | assumption
    have ht5005_σd : σd 5005 = (nI (kr (txK x L e))) := by rw [eσd_a, upd_ne (by first | omega | (simp only [vb] at *; omega))]; first | exact ht5005_σa | assumption
    have ht5006_σd : σd 5006 = (nI (txS x L e)) := by rw [eσd_a, upd_ne (by first | omega | (simp only [vb] at *; omega))]; first | exact ht5006_σa | assumption
    have ht5007_σd : σd 5007 = (nI (txE x L e)) := by rw [eσd_a, upd_ne (by first | omega | (simp only [vb] at *; omega))]; first | exact ht5007_σa | assumption
    have ht5009_σd : σd 5009 = (nI 0) := by rw [eσd_a, upd_ne (by first | omega | (simp only [vb] at *; omega))]; first | exact ht5009_σa | assumption
    have ht4004_σd : σd 4004 = p0 := by rw [eσd_a, upd_ne (by first | omega | (simp only [vb] at *; omega))]; first | exact ht4004_σa | assumption
    have hcTX_σd : TX 5600 σd L x := by rw [eσd_a]; exact TX.fr hcTX_σa (fun a ha hb => upd_ne (by first | omega | (simp only [vb] at *; omega)))
    have hcVL_σd : VL σd x L e := by rw [eσd_a]; exact VL.fr hcVL_σa (upd_ne (by first | omega | (simp only [vb] at *; omega)))
    have hcFR_σd : ∀ a, (464 ≤ a ∧ a ≠ 5009 ∧ a ≠ 4004 ∧ (a < 5005 ∨ 5008 < a) ∨ a = 10) → σd a = σ a := by intro a ha; exact Eq.trans (b := σa a) (by rw [eσd_a, upd_ne (by first | omega | (simp only [vb] at *; omega))]) (hcFR_σa a ha)
    obtain ⟨μd, eμd⟩ : ∃ μd : Nat → Int32, μd = upd μ tw (nI (txV x L e)) := ⟨_, rfl⟩
    have hvσd : vw 0 σd = μd := by rw [eσd_a, eμd, vw_in (by omega)]; congr 1
    refine g_aload_n h dX12_aTime_20 0 rfl ?_
    refine g_cvi (rest := []) h (r_takes hW (txE x L e) L x (by first | omega | assumption | fail) (by first | omega | assumption | fail) (by first | exact ht5004_σd | assumption | fail) (by first | exact ht5007_σd | assumption | fail) (by first | exact hcTX_σd | assumption | fail)) lX12_takes mX12_232 (Nat.lt_of_lt_of_le (by decide) (Nat.le_refl _)) (by decide) sc_0 rfl rfl rfl rfl dX12_aTime_21 (fun σ_1 eσ_1 => ?_)
    obtain ⟨eσ_1_a, eσ_1_b, eσ_1_c, eσ_1_d, eσ_1_e, eσ_1_f, eσ_1_g⟩ := eσ_1
    have eσ_1_a : σ_1 5004 = (nI L) := eσ_1_a
    have eσ_1_b : σ_1 5005 = (nI (kr (txK x L (txE x L e)))) := eσ_1_b
    have eσ_1_c : σ_1 5006 = (nI (txS x L (txE x L e))) := eσ_1_c
    have eσ_1_d : σ_1 5007 = (nI (txE x L (txE x L e))) := eσ_1_d
    have eσ_1_e : TX 5600 σ_1 L x := eσ_1_e
    have eσ_1_f : VL σ_1 x L (txE x L e) := eσ_1_f
    have eσ_1_g : ∀ a, (a < 5005 ∨ 5008 < a) → σ_1 a = σd a := eσ_1_g
    have ht5009_σ_1 : σ_1 5009 = (nI 0) := by rw [eσ_1_g _ (by first | omega | (simp only [vb] at *; omega))]; first | exact ht5009_σd | assumption
    have ht4004_σ_1 : σ_1 4004 = p0 := by rw [eσ_1_g _ (by first | omega | (simp only [vb] at *; omega))]; first | exact ht4004_σd | assumption
    have ht5004_σ_1 : σ_1 5004 = (nI L) := eσ_1_a
    have ht5005_σ_1 : σ_1 5005 = (nI (kr (txK x L (txE x L e)))) := eσ_1_b
    have ht5006_σ_1 : σ_1 5006 = (nI (txS x L (txE x L e))) := eσ_1_c
    have ht5007_σ_1 : σ_1 5007 = (nI (txE x L (txE x L e))) := eσ_1_d
    have hcTX_σ_1 : TX 5600 σ_1 L x := eσ_1_e
    have hcVL_σ_1 : VL σ_1 x L (txE x L e) := eσ_1_f
    have hcFR_σ_1 : ∀ a, (464 ≤ a ∧ a ≠ 5009 ∧ a ≠ 4004 ∧ (a < 5005 ∨ 5008 < a) ∨ a = 10) → σ_1 a = σ a := by intro a ha; exact Eq.trans (b := σd a) (eσ_1_g a (by first | omega | (simp only [vb] at *; omega))) (hcFR_σd a ha)
    have hvσ_1 : vw 0 σ_1 = μd := by rw [vw_fr (σ := σd) (fun j _ _ => eσ_1_g _ (by first | omega | (simp only [vb] at *; omega)))]; first | exact hvσd | assumption
    refine g_top (y := nI 1) rfl ?_
    exact g_zret h hQ dX12_aTime_24 (show narrow .boolean (.int (b2i true)) = .int (b2i true) from narrow_b2i _) (congrArg (fun z => some (Value.int (b2i z))) (show (decide ((ar9 x L μ k (na9 k) 0 0 e).1 = 0)) = true by rw [hR]; first | rfl | exact decide_eq_true rfl | exact decide_eq_false hf9)) (by exact ⟨(by first | exact pk_yes (by rw [hR]) (by rw [hvσ_1, eμd]; exact (ti_ef hk9).symm) | exact pk_no (k := (ar9 x L μ k (na9 k) 0 0 e).1) rfl (by rw [hR]; exact hf9) hvσ_1 | fail), (by first | exact ht5004_σ_1 | assumption | fail), (by rw [hR]; exact ht5005_σ_1), (by rw [hR]; exact ht5006_σ_1), (by rw [hR]; exact ht5007_σ_1), (by rw [hR]; exact ht5009_σ_1), (by first | (rw [hR]; exact (ht4004_σ_1).trans (if_pos rfl).symm) | (rw [hR]; exact (ht4004_σ_1).trans (if_neg hf9).symm) | (rw [hR]; exact ht4004_σ_1) | fail), (by first | exact hcTX_σ_1 | assumption | fail), (by rw [hR]; exact hcVL_σ_1), (by exact hcFR_σ_1)⟩)
  ·
    have hf9 : nf9 x L e 1 tm ≠ 0 := of_decide_eq_false c6
    have h0 : af9 x L μ k 0 0 e = nf9 x L e 1 tm := ti_af hk9
    have hna : na9 k = 1 := ti_na hk9
    have hR : ar9 x L μ k (na9 k) 0 0 e = (nf9 x L e 1 tm, e) := by rw [hna]; exact (ar9_no (by rw [h0]; exact hf9)).trans (by rw [h0])
    refine g_iconst h dX12_aTime_9 (by decide) ?_
    exact g_zret h hQ dX12_aTime_10 (show narrow .boolean (.int (b2i false)) = .int (b2i false) from narrow_b2i _) (congrArg (fun z => some (Value.int (b2i z))) (show (decide ((ar9 x L μ k (na9 k) 0 0 e).1 = 0)) = false by rw [hR]; first | rfl | exact decide_eq_true rfl | exact decide_eq_false hf9)) (by exact ⟨(by first | exact pk_yes (by rw [hR]) (by rw [hvσa, eμd]; exact (ti_ef hk9).symm) | exact pk_no (k := (ar9 x L μ k (na9 k) 0 0 e).1) rfl (by rw [hR]; exact hf9) hvσa | fail), (by first | exact ht5004_σa | assumption | fail), (by rw [hR]; exact ht5005_σa), (by rw [hR]; exact ht5006_σa), (by rw [hR]; exact ht5007_σa), (by rw [hR]; exact ht5009_σa), (by first | (rw [hR]; exact (ht4004_σa).trans (if_pos rfl).symm) | (rw [hR]; exact (ht4004_σa).trans (if_neg hf9).symm) | (rw [hR]; exact ht4004_σa) | fail), (by first | exact hcTX_σa | assumption | fail), (by rw [hR]; exact hcVL_σa), (by exact hcFR_σa)⟩)
