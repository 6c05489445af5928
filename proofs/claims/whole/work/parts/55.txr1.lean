/-! the reference's tokens -/
def VL (σ : Mem) (x : Nat → Nat) (L e : Nat) : Prop := txK x L e = 2 → σ 5008 = nI (txV x L e)
theorem VL.fr {σ σ' : Mem} {x : Nat → Nat} {L e : Nat} (h : VL σ x L e) (f : σ' 5008 = σ 5008) : VL σ' x L e := fun q => by rw [f]; exact h q
def kyO (x : Nat → Nat) (L e : Nat) : Option Nat := if txK x L e = 1 then txW x L e else none
theorem tx_and {b L k : Nat} {x : Nat → Nat} {σ : Mem} (h : TX b σ L x) (hk : k < L) : σ (b + k) &&& nI 255 = nI (x k) := by
  rw [(h k hk).2]
  exact (by8_k (h k hk).1).1
section BL
variable {b L k : Nat} {x : Nat → Nat} {σ : Mem}
theorem bl_1 (hT : TX b σ L x) (h : ba x L k = nI 32) : k < L ∧ blC (x k) = true := by
  obtain ⟨h1, h2⟩ := (ba_eq hT (by decide)).mp h
  exact ⟨h1, by rw [h2]; decide⟩
theorem bl_2 (hT : TX b σ L x) (h : ba x L k = nI 10) : k < L ∧ blC (x k) = true := by
  obtain ⟨h1, h2⟩ := (ba_eq hT (by decide)).mp h
  exact ⟨h1, by rw [h2]; decide⟩
theorem bl_n (hT : TX b σ L x) (h1 : ¬ ba x L k = nI 32) (h2 : ¬ ba x L k = nI 10) : L ≤ k ∨ blC (x k) = false := by
  by_cases h : k < L
  · right
    unfold blC
    rw [decide_eq_false (fun q => h1 ((ba_eq hT (by decide)).mpr ⟨h, q⟩)), decide_eq_false (fun q => h2 ((ba_eq hT (by decide)).mpr ⟨h, q⟩))]
    rfl
  · left; omega
theorem ba_lt1 (hT : TX b σ L x) (h : ¬ ba x L k = -1) : k < L := Nat.not_le.mp fun q => h ((ba_m1 hT).mpr q)
theorem le_t (h : k < L) : (decide (k < L) && leC (x k)) = leC (x k) := by rw [decide_eq_true h]; rfl
theorem dg_t (h : k < L) : (decide (k < L) && dgC (x k)) = dgC (x k) := by rw [decide_eq_true h]; rfl
end BL
theorem an_t {k L : Nat} {p : Bool} (h : (decide (k < L) && p) = true) : k < L ∧ p = true := by simpa using h
theorem an_f {k L : Nat} {p : Bool} (h : (decide (k < L) && p) = false) : L ≤ k ∨ p = false := by
  by_cases q : k < L
  · rw [decide_eq_true q] at h
    exact Or.inr h
  · left; omega
theorem kl_y {D lk : Bool} {p : Nat → Bool} {i : Nat} (h : lk = (D && !anyB p i)) (c : lk = true) (hp : p i = false) : true = (D && !anyB p (i + 1)) := by
  simp only [anyB]
  rw [hp, Bool.or_false, ← h, c]
theorem kl_n {D : Bool} {p : Nat → Bool} {i : Nat} (hp : p i = true) : false = (D && !anyB p (i + 1)) := by
  simp only [anyB]
  rw [hp, Bool.or_true]
  exact (Bool.and_false _).symm
theorem kl_e1 {x : Nat → Nat} {s n m i : Nat} {lk : Bool} (h : lk = (decide (n = sl m) && !anyB (fun j => !decide (x (s + j) = sc m j)) i)) (hi : i = sl m) : eqW x s n m = lk := by
  rw [h, hi]
  rfl
theorem kl_e2 {x : Nat → Nat} {s n m i : Nat} {lk : Bool} (h : lk = (decide (n = sl m) && !anyB (fun j => !decide (x (s + j) = sc m j)) i)) (c : lk = false) (hi : i ≤ sl m) : eqW x s n m = lk := by
  rw [c]
  rw [c] at h
  by_cases q : n = sl m
  · rw [decide_eq_true q] at h
    have h2 : anyB (fun j => !decide (x (s + j) = sc m j)) i = true := by
      cases w : anyB (fun j => !decide (x (s + j) = sc m j)) i with
      | true => rfl
      | false => rw [w] at h; cases h
    obtain ⟨j, hj, hp⟩ := anyB_iff.mp h2
    unfold eqW
    rw [anyB_iff.mpr ⟨j, by omega, hp⟩]
    exact Bool.and_false _
  · exact eqW_len q
theorem nd_f {a b : Nat} (h : a = b) : (!decide (b = a)) = false := by rw [h, decide_eq_true rfl]; rfl
theorem nd_t {a b : Nat} (h : a ≠ b) : (!decide (b = a)) = true := by rw [decide_eq_false (Ne.symm h)]; rfl
theorem kl_len {D lk q : Bool} (h : lk = (D && q)) (c : lk = true) : D = true := by
  rw [c] at h
  cases D with
  | true => rfl
  | false => cases h
theorem kp_b {m : Nat} (h : m ≤ 8) : kp m ≤ 39 := by
  have : m = 0 ∨ m = 1 ∨ m = 2 ∨ m = 3 ∨ m = 4 ∨ m = 5 ∨ m = 6 ∨ m = 7 ∨ m = 8 := by omega
  rcases this with rfl | rfl | rfl | rfl | rfl | rfl | rfl | rfl | rfl <;> decide
def tff (K q : Nat) : Nat := if K = 4 then 1 else q
theorem tff_y {x : Nat → Nat} {L e q : Nat} (h : kr (txK x L e) = 1) : tff (txK x L e) q = 1 := by
  unfold tff
  rw [if_pos (kr_i.2.1.mp h)]
theorem tff_n {x : Nat → Nat} {L e q : Nat} (h : kr (txK x L e) ≠ 1) : tff (txK x L e) q = q := by
  unfold tff
  rw [if_neg (fun z => h (kr_i.2.1.mpr z))]
theorem tf9_n {K q : Nat} (h : K ≠ q) : tf9 K q = tff K 2 := by
  unfold tf9 tff
  rw [if_neg h]
theorem tf9_y {K q : Nat} (h : K = q) : tf9 K q = 0 := by
  unfold tf9
  rw [if_pos h]
theorem tff_0 {K q : Nat} (h : q ≠ 0) : tff K q ≠ 0 := by
  unfold tff
  split <;> omega
theorem tff_2 {K q : Nat} (h : K = 2) : tff K q = q := by
  unfold tff
  rw [if_neg (by omega)]

set_option maxRecDepth 100000 in
set_option maxHeartbeats 4000000 in
theorem j_minB {l : Launch} {w : Wd} (hW : Wi w) {σ : Mem} (a b : Nat) (ha : a < 2 ^ 31) (hb : b < 2 ^ 31) : MC l w qJ9_min_7cf53 0 [.int (nI a), .int (nI b)] σ (some (.int (nI (min a b)))) (fun σ' => σ' = σ) := by
  refine MC.ofF hW (by decide +kernel) (Nat.le_of_ble_eq_true rfl) (fun X h hQ hnm => ?_)
  have h : Fx X w cJ9_min_7cf53 2 RJ9 0 := h
  have hQ : Qx X w (some .int) (some (.int (nI (min a b)))) (fun σ' => σ' = σ) := hQ
  show G X w 2 0 [(0, .int (nI a)), (1, .int (nI b))] [] σ
  refine g_iload_n h dJ9_min_7cf53_0 0 rfl ?_
  refine g_iload_n h dJ9_min_7cf53_1 1 rfl ?_
  refine g_icmpN_gt h dJ9_min_7cf53_2 (by omega) (by omega) (fun c2 => ?_) (fun c2 => ?_)
  ·
    refine g_iload_n h dJ9_min_7cf53_9 1 rfl ?_
    exact g_iret h hQ dJ9_min_7cf53_10 (congrArg (fun z => some (Value.int z)) (show (nI (min a b)) = (nI b) by congr 1; omega)) rfl
  ·
    refine g_iload_n h dJ9_min_7cf53_5 0 rfl ?_
    refine g_goto h dJ9_min_7cf53_6 ?_
    exact g_iret h hQ dJ9_min_7cf53_10 (congrArg (fun z => some (Value.int z)) (show (nI (min a b)) = (nI a) by congr 1; omega)) rfl

set_option maxRecDepth 100000 in
set_option maxHeartbeats 4000000 in
theorem r_byteAt {l : Launch} {w : Wd} (hW : Wi w) {σ : Mem} (k L : Nat) (x : Nat → Nat) (hL : L ≤ 400) (hk : k < 2 ^ 31) (ht5004_σ : σ 5004 = (nI L)) (hcTX_σ : TX 5600 σ L x) : MC l w qX12_byteAt 0 [.ref (w.1 0), .int (nI k)] σ (some (.int (ba x L k))) (fun σ' => σ' = σ) := by
  refine MC.of hW (by decide +kernel) (Nat.le_of_ble_eq_true rfl) (fun X h hQ hnm => ?_)
  have h : Fx X w cX12_byteAt 2 RX12 0 := h
  have hQ : Qx X w (some .int) (some (.int (ba x L k))) (fun σ' => σ' = σ) := hQ
  show G X w 2 0 [(0, .ref (w.1 0)), (1, .int (nI k))] [] σ
  refine g_iload_n h dX12_byteAt_0 1 rfl ?_
  refine g_aload_n h dX12_byteAt_1 0 rfl ?_
  refine g_geti h dX12_byteAt_2 gX12_184 sc_0 rfl ?_
  refine g_top (y := (nI L)) (by first | exact ht5004_σ | assumption) ?_
  refine g_icmpN_ge h dX12_byteAt_5 (by omega) (by omega) (fun c5 => ?_) (fun c5 => ?_)
  ·
    refine g_iconstv h dX12_byteAt_21 (v := (-1)) (by decide) ?_
    exact g_iret h hQ dX12_byteAt_22 (congrArg (fun z => some (Value.int z)) (show (ba x L k) = (-1) by first | exact ba_yes (by omega) | exact ba_no (by omega) | fail)) rfl
  ·
    refine g_aload_n h dX12_byteAt_8 0 rfl ?_
    refine g_getr h dX12_byteAt_9 gX12_32 sc_0 rfl ?_
    refine g_iload_n h dX12_byteAt_12 1 rfl ?_
    refine g_bald h dX12_byteAt_13 sc_8 (by omega) ?_
    refine g_sipush h dX12_byteAt_14 (by decide) ?_
    refine g_iand h dX12_byteAt_17  ?_
    refine g_top (y := (nI (x k))) (tx_and hcTX_σ (by omega)) ?_
    refine g_goto h dX12_byteAt_18 ?_
    exact g_iret h hQ dX12_byteAt_22 (congrArg (fun z => some (Value.int z)) (show (ba x L k) = (nI (x k)) by first | exact ba_yes (by omega) | exact ba_no (by omega) | fail)) rfl

set_option maxRecDepth 100000 in
set_option maxHeartbeats 4000000 in
theorem r_isSmall {l : Launch} {w : Wd} (hW : Wi w) {σ : Mem} (v : Int32)  : MC l w qX12_isSmall 0 [.int v] σ (some (.int (b2i (decide (nI 97 ≤ v) && decide (v ≤ nI 122))))) (fun σ' => σ' = σ) := by
  refine MC.of hW (by decide +kernel) (Nat.le_of_ble_eq_true rfl) (fun X h hQ hnm => ?_)
  have h : Fx X w cX12_isSmall 1 RX12 0 := h
  have hQ : Qx X w (some .boolean) (some (.int (b2i (decide (nI 97 ≤ v) && decide (v ≤ nI 122))))) (fun σ' => σ' = σ) := hQ
  show G X w 1 0 [(0, .int v)] [] σ
  refine g_iload_n h dX12_isSmall_0 0 rfl ?_
  refine g_bipush h dX12_isSmall_1 (by decide) ?_
  refine g_icmp_lt h dX12_isSmall_3 (fun c3 => ?_) (fun c3 => ?_)
  ·
    refine g_iconst h dX12_isSmall_16 (by decide) ?_
    exact g_zret h hQ dX12_isSmall_17 (show narrow .boolean (.int (b2i false)) = .int (b2i false) from narrow_b2i _) (congrArg (fun z => some (Value.int (b2i z))) (show (decide (nI 97 ≤ v) && decide (v ≤ nI 122)) = false by first | (simp [Int32.not_le.mpr c3]; done) | (simp [Int32.not_le.mpr c9]; done) | (simp [Int32.not_lt.mp c3, Int32.not_lt.mp c9]; done) | fail)) rfl
  ·
    refine g_iload_n h dX12_isSmall_6 0 rfl ?_
    refine g_bipush h dX12_isSmall_7 (by decide) ?_
    refine g_icmp_gt h dX12_isSmall_9 (fun c9 => ?_) (fun c9 => ?_)
    ·
      refine g_iconst h dX12_isSmall_16 (by decide) ?_
      exact g_zret h hQ dX12_isSmall_17 (show narrow .boolean (.int (b2i false)) = .int (b2i false) from narrow_b2i _) (congrArg (fun z => some (Value.int (b2i z))) (show (decide (nI 97 ≤ v) && decide (v ≤ nI 122)) = false by first | (simp [Int32.not_le.mpr c3]; done) | (simp [Int32.not_le.mpr c9]; done) | (simp [Int32.not_lt.mp c3, Int32.not_lt.mp c9]; done) | fail)) rfl
    ·
      refine g_iconst h dX12_isSmall_12 (by decide) ?_
      refine g_goto h dX12_isSmall_13 ?_
      exact g_zret h hQ dX12_isSmall_17 (show narrow .boolean (.int (b2i true)) = .int (b2i true) from narrow_b2i _) (congrArg (fun z => some (Value.int (b2i z))) (show (decide (nI 97 ≤ v) && decide (v ≤ nI 122)) = true by first | (simp [Int32.not_le.mpr c3]; done) | (simp [Int32.not_le.mpr c9]; done) | (simp [Int32.not_lt.mp c3, Int32.not_lt.mp c9]; done) | fail)) rfl

set_option maxRecDepth 100000 in
set_option maxHeartbeats 4000000 in
theorem r_isDigit {l : Launch} {w : Wd} (hW : Wi w) {σ : Mem} (v : Int32)  : MC l w qX12_isDigit 0 [.int v] σ (some (.int (b2i (decide (nI 48 ≤ v) && decide (v ≤ nI 57))))) (fun σ' => σ' = σ) := by
  refine MC.of hW (by decide +kernel) (Nat.le_of_ble_eq_true rfl) (fun X h hQ hnm => ?_)
  have h : Fx X w cX12_isDigit 1 RX12 0 := h
  have hQ : Qx X w (some .boolean) (some (.int (b2i (decide (nI 48 ≤ v) && decide (v ≤ nI 57))))) (fun σ' => σ' = σ) := hQ
  show G X w 1 0 [(0, .int v)] [] σ
  refine g_iload_n h dX12_isDigit_0 0 rfl ?_
  refine g_bipush h dX12_isDigit_1 (by decide) ?_
  refine g_icmp_lt h dX12_isDigit_3 (fun c3 => ?_) (fun c3 => ?_)
  ·
    refine g_iconst h dX12_isDigit_16 (by decide) ?_
    exact g_zret h hQ dX12_isDigit_17 (show narrow .boolean (.int (b2i false)) = .int (b2i false) from narrow_b2i _) (congrArg (fun z => some (Value.int (b2i z))) (show (decide (nI 48 ≤ v) && decide (v ≤ nI 57)) = false by first | (simp [Int32.not_le.mpr c3]; done) | (simp [Int32.not_le.mpr c9]; done) | (simp [Int32.not_lt.mp c3, Int32.not_lt.mp c9]; done) | fail)) rfl
  ·
    refine g_iload_n h dX12_isDigit_6 0 rfl ?_
    refine g_bipush h dX12_isDigit_7 (by decide) ?_
    refine g_icmp_gt h dX12_isDigit_9 (fun c9 => ?_) (fun c9 => ?_)
    ·
      refine g_iconst h dX12_isDigit_16 (by decide) ?_
      exact g_zret h hQ dX12_isDigit_17 (show narrow .boolean (.int (b2i false)) = .int (b2i false) from narrow_b2i _) (congrArg (fun z => some (Value.int (b2i z))) (show (decide (nI 48 ≤ v) && decide (v ≤ nI 57)) = false by first | (simp [Int32.not_le.mpr c3]; done) | (simp [Int32.not_le.mpr c9]; done) | (simp [Int32.not_lt.mp c3, Int32.not_lt.mp c9]; done) | fail)) rfl
    ·
      refine g_iconst h dX12_isDigit_12 (by decide) ?_
      refine g_goto h dX12_isDigit_13 ?_
      exact g_zret h hQ dX12_isDigit_17 (show narrow .boolean (.int (b2i true)) = .int (b2i true) from narrow_b2i _) (congrArg (fun z => some (Value.int (b2i z))) (show (decide (nI 48 ≤ v) && decide (v ≤ nI 57)) = true by first | (simp [Int32.not_le.mpr c3]; done) | (simp [Int32.not_le.mpr c9]; done) | (simp [Int32.not_lt.mp c3, Int32.not_lt.mp c9]; done) | fail)) rfl

set_option maxRecDepth 100000 in
set_option maxHeartbeats 16000000 in
theorem r_ahead {l : Launch} {w : Wd} (hW : Wi w) {σ : Mem} (e L : Nat) (x : Nat → Nat) (he : e ≤ L) (hL : L ≤ 400) (ht5004_σ : σ 5004 = (nI L)) (ht5007_σ : σ 5007 = (nI e)) (hcTX_σ : TX 5600 σ L x) : MC l w qX12_ahead 1 [.ref (w.1 0)] σ none (fun σ' => (σ' 5004 = (nI L)) ∧ (σ' 5005 = (nI (kr (txK x L e)))) ∧ (σ' 5006 = (nI (txS x L e))) ∧ (σ' 5007 = (nI (txE x L e))) ∧ (TX 5600 σ' L x) ∧ (VL σ' x L e) ∧ (∀ a, (a < 5005 ∨ 5008 < a) → σ' a = σ a)) := by
  refine MC.of hW (by decide +kernel) (Nat.le_of_ble_eq_true rfl) (fun X h hQ hnm => ?_)
  have h : Fx X w cX12_ahead 2 RX12 1 := h
  have hQ : Qx X w none none (fun σ' => (σ' 5004 = (nI L)) ∧ (σ' 5005 = (nI (kr (txK x L e)))) ∧ (σ' 5006 = (nI (txS x L e))) ∧ (σ' 5007 = (nI (txE x L e))) ∧ (TX 5600 σ' L x) ∧ (VL σ' x L e) ∧ (∀ a, (a < 5005 ∨ 5008 < a) → σ' a = σ a)) := hQ
  have hcFR_σ : ∀ a, (a < 5005 ∨ 5008 < a) → σ a = σ a := fun _ _ => rfl
  show G X w 2 0 [(0, .ref (w.1 0))] [] σ
  have lp0 : ∀ (k9 : Nat) (e1 : Nat) (τ : Mem), (e1 ≤ L) → (txS x L e = rnx (fun k => blC (x k)) L e1) → (τ 5004 = (nI L)) → (τ 5007 = (nI e1)) → (TX 5600 τ L x) → (∀ a, (a < 5005 ∨ 5008 < a) → τ a = σ a) → L + 1 - e1 < k9 → G X w 2 0 [(0, .ref (w.1 0))] [] (τ) := by
    intro k9
    induction k9 with
    | zero => intro e1 τ he1 hS ht5004_τ ht5007_τ hcTX_τ hcFR_τ hm9; exact absurd hm9 (Nat.not_lt_zero _)
    | succ k9 ih0 =>
      intro e1 τ he1 hS ht5004_τ ht5007_τ hcTX_τ hcFR_τ hm0
      refine g_aload_n h dX12_ahead_0 0 rfl ?_
      refine g_aload_n h dX12_ahead_1 0 rfl ?_
      refine g_geti h dX12_ahead_2 gX12_187 sc_0 rfl ?_
      refine g_top (y := (nI e1)) (by first | exact ht5007_τ | assumption) ?_
      refine g_cvpi (rest := []) h (r_byteAt hW e1 L x (by first | omega | assumption | fail) (by omega) (by first | exact ht5004_τ | assumption | fail) (by first | exact hcTX_τ | assumption | fail)) lX12_byteAt mX12_190 (Nat.lt_of_lt_of_le (by decide) (Nat.le_refl _)) (by decide) sc_0 rfl rfl rfl rfl dX12_ahead_5 ?_
      refine g_bipush h dX12_ahead_8 (by decide) ?_
      refine g_icmp_eq h dX12_ahead_10 (fun c10 => ?_) (fun c10 => ?_)
      ·
        have hbl : e1 < L ∧ blC (x e1) = true := by first | exact bl_1 hcTX_τ c10 | exact bl_2 hcTX_τ c23
        refine g_aload_n h dX12_ahead_26 0 rfl ?_
        refine g_dup h dX12_ahead_27 rfl ?_
        refine g_geti h dX12_ahead_28 gX12_187 sc_0 rfl ?_
        refine g_top (y := (nI e1)) (by first | exact ht5007_τ | assumption) ?_
        refine g_iconst h dX12_ahead_31 (by decide) ?_
        refine g_iaddN h dX12_ahead_32  ?_
        refine g_puti h dX12_ahead_33 pX12_187 sc_0 rfl ?_
        refine g_nm (fun σ_1 eσ_1 => ?_)
        have eσ_1 : σ_1 = upd (τ) 5007 (nI (e1 + 1)) := eσ_1
        have ht5004_σ_1 : σ_1 5004 = (nI L) := by rw [eσ_1, upd_ne (by first | omega | (simp only [vb] at *; omega))]; first | exact ht5004_τ | assumption
        have ht5007_σ_1 : σ_1 5007 = (nI (e1 + 1)) := by rw [eσ_1]; exact upd_eq
        have hcTX_σ_1 : TX 5600 σ_1 L x := by rw [eσ_1]; exact TX.fr hcTX_τ (fun a ha hb => upd_ne (by first | omega | (simp only [vb] at *; omega)))
        have hcFR_σ_1 : ∀ a, (a < 5005 ∨ 5008 < a) → σ_1 a = σ a := by intro a ha; exact Eq.trans (b := (τ) a) (by rw [eσ_1, upd_ne (by first | omega | (simp only [vb] at *; omega))]) (hcFR_τ a ha)
        refine g_goto h dX12_ahead_36 ?_
        exact ih0 (e1 + 1) σ_1 (by omega) (by rw [hS]; exact rnx_t hbl.1 hbl.2) (by first | exact ht5004_σ_1 | assumption | fail | fail) (by first | exact ht5007_σ_1 | assumption | fail | fail) (by first | exact hcTX_σ_1 | assumption | fail | fail) (by first | exact hcFR_σ_1 | assumption | fail | fail) (by omega)
      ·
        refine g_aload_n h dX12_ahead_13 0 rfl ?_
        refine g_aload_n h dX12_ahead_14 0 rfl ?_
        refine g_geti h dX12_ahead_15 gX12_187 sc_0 rfl ?_
        refine g_top (y := (nI e1)) (by first | exact ht5007_τ | assumption) ?_
        refine g_cvpi (rest := []) h (r_byteAt hW e1 L x (by first | omega | assumption | fail) (by omega) (by first | exact ht5004_τ | assumption | fail) (by first | exact hcTX_τ | assumption | fail)) lX12_byteAt mX12_190 (Nat.lt_of_lt_of_le (by decide) (Nat.le_refl _)) (by decide) sc_0 rfl rfl rfl rfl dX12_ahead_18 ?_
        refine g_bipush h dX12_ahead_21 (by decide) ?_
        refine g_icmp_ne h dX12_ahead_23 (fun c23 => ?_) (fun c23 => ?_)
        ·
          have hS2 : txS x L e = e1 := by rw [hS]; exact rnx_f (bl_n hcTX_τ c10 c23)
          refine g_aload_n h dX12_ahead_39 0 rfl ?_
          refine g_aload_n h dX12_ahead_40 0 rfl ?_
          refine g_geti h dX12_ahead_41 gX12_187 sc_0 rfl ?_
          refine g_top (y := (nI e1)) (by first | exact ht5007_τ | assumption) ?_
          refine g_puti h dX12_ahead_44 pX12_193 sc_0 rfl ?_
          refine g_nm (fun σ_2 eσ_2 => ?_)
          have eσ_2 : σ_2 = upd (τ) 5006 (nI e1) := eσ_2
          have ht5004_σ_2 : σ_2 5004 = (nI L) := by rw [eσ_2, upd_ne (by first | omega | (simp only [vb] at *; omega))]; first | exact ht5004_τ | assumption
          have ht5007_σ_2 : σ_2 5007 = (nI e1) := by rw [eσ_2, upd_ne (by first | omega | (simp only [vb] at *; omega))]; first | exact ht5007_τ | assumption
          have ht5006_σ_2 : σ_2 5006 = (nI e1) := by rw [eσ_2]; exact upd_eq
          have hcTX_σ_2 : TX 5600 σ_2 L x := by rw [eσ_2]; exact TX.fr hcTX_τ (fun a ha hb => upd_ne (by first | omega | (simp only [vb] at *; omega)))
          have hcFR_σ_2 : ∀ a, (a < 5005 ∨ 5008 < a) → σ_2 a = σ a := by intro a ha; exact Eq.trans (b := (τ) a) (by rw [eσ_2, upd_ne (by first | omega | (simp only [vb] at *; omega))]) (hcFR_τ a ha)
          refine g_aload_n h dX12_ahead_47 0 rfl ?_
          refine g_aload_n h dX12_ahead_48 0 rfl ?_
          refine g_geti h dX12_ahead_49 gX12_187 sc_0 rfl ?_
          refine g_top (y := (nI e1)) (by first | exact ht5007_σ_2 | assumption) ?_
          refine g_cvpi (rest := []) h (r_byteAt hW e1 L x (by first | omega | assumption | fail) (by omega) (by first | exact ht5004_σ_2 | assumption | fail) (by first | exact hcTX_σ_2 | assumption | fail)) lX12_byteAt mX12_190 (Nat.lt_of_lt_of_le (by decide) (Nat.le_refl _)) (by decide) sc_0 rfl rfl rfl rfl dX12_ahead_52 ?_
          refine g_istore_n (L' := [(0, .ref (w.1 0)), (1, .int (ba x L e1))]) h dX12_ahead_55 rfl (by decide) rfl ?_
          refine g_iload_n h dX12_ahead_56 1 rfl ?_
          refine g_iconstv h dX12_ahead_57 (v := (-1)) (by decide) ?_
          refine g_icmp_ne h dX12_ahead_58 (fun c58 => ?_) (fun c58 => ?_)
          ·
            have hlt : e1 < L := ba_lt1 hcTX_τ c58
            refine g_iload_n h dX12_ahead_69 1 rfl ?_
            refine g_cspi (rest := []) h (r_isSmall hW (ba x L e1) ) lX12_isSmall mX12_199 (Nat.lt_of_lt_of_le (by decide) (Nat.le_refl _)) (by decide) rfl rfl rfl dX12_ahead_70 ?_
            refine g_top (y := (b2i (leC (x e1)))) (congrArg b2i ((ba_le hcTX_σ_2).trans (le_t hlt))) ?_
            refine g_ifB_eq h dX12_ahead_73 (fun c73 => ?_) (fun c73 => ?_)
            ·
              refine g_iload_n h dX12_ahead_111 1 rfl ?_
              refine g_cspi (rest := []) h (r_isDigit hW (ba x L e1) ) lX12_isDigit mX12_202 (Nat.lt_of_lt_of_le (by decide) (Nat.le_refl _)) (by decide) rfl rfl rfl dX12_ahead_112 ?_
              refine g_top (y := (b2i (dgC (x e1)))) (congrArg b2i ((ba_dg hcTX_σ_2).trans (dg_t hlt))) ?_
              refine g_ifB_eq h dX12_ahead_115 (fun c115 => ?_) (fun c115 => ?_)
              ·
                have hl0 := tx_el (x := x) (L := L) (e := e) (by rw [hS2]; omega) (by rw [hS2, c73]; decide) (by rw [hS2, c115]; decide)
                rw [hS2] at hl0
                have hE3 := hl0.1
                refine g_aload_n h dX12_ahead_204 0 rfl ?_
                refine g_dup h dX12_ahead_205 rfl ?_
                refine g_geti h dX12_ahead_206 gX12_187 sc_0 rfl ?_
                refine g_top (y := (nI e1)) (by first | exact ht5007_σ_2 | assumption) ?_
                refine g_iconst h dX12_ahead_209 (by decide) ?_
                refine g_iaddN h dX12_ahead_210  ?_
                refine g_puti h dX12_ahead_211 pX12_187 sc_0 rfl ?_
                refine g_nm (fun σ_3 eσ_3 => ?_)
                have eσ_3 : σ_3 = upd σ_2 5007 (nI (e1 + 1)) := eσ_3
                have ht5004_σ_3 : σ_3 5004 = (nI L) := by rw [eσ_3, upd_ne (by first | omega | (simp only [vb] at *; omega))]; first | exact ht5004_σ_2 | assumption
                have ht5007_σ_3 : σ_3 5007 = (nI (e1 + 1)) := by rw [eσ_3]; exact upd_eq
                have ht5006_σ_3 : σ_3 5006 = (nI e1) := by rw [eσ_3, upd_ne (by first | omega | (simp only [vb] at *; omega))]; first | exact ht5006_σ_2 | assumption
                have hcTX_σ_3 : TX 5600 σ_3 L x := by rw [eσ_3]; exact TX.fr hcTX_σ_2 (fun a ha hb => upd_ne (by first | omega | (simp only [vb] at *; omega)))
                have hcFR_σ_3 : ∀ a, (a < 5005 ∨ 5008 < a) → σ_3 a = σ a := by intro a ha; exact Eq.trans (b := σ_2 a) (by rw [eσ_3, upd_ne (by first | omega | (simp only [vb] at *; omega))]) (hcFR_σ_2 a ha)
                refine g_aload_n h dX12_ahead_214 0 rfl ?_
                refine g_iload_n h dX12_ahead_215 1 rfl ?_
                refine g_bipush h dX12_ahead_216 (by decide) ?_
                refine g_icmp_ne h dX12_ahead_218 (fun c218 => ?_) (fun c218 => ?_)
                ·
                  have hK : txK x L e = 4 := by rw [hl0.2, if_neg (fun q => c218 ((ba_eq hcTX_τ (by decide)).mpr ⟨hlt, q⟩))]
                  refine g_iconst h dX12_ahead_225 (by decide) ?_
                  refine g_puti h dX12_ahead_226 pX12_196 sc_0 rfl ?_
                  refine g_nm (fun σ_4 eσ_4 => ?_)
                  have eσ_4 : σ_4 = upd σ_3 5005 (nI 1) := eσ_4
                  have ht5004_σ_4 : σ_4 5004 = (nI L) := by rw [eσ_4, upd_ne (by first | omega | (simp only [vb] at *; omega))]; first | exact ht5004_σ_3 | assumption
                  have ht5007_σ_4 : σ_4 5007 = (nI (e1 + 1)) := by rw [eσ_4, upd_ne (by first | omega | (simp only [vb] at *; omega))]; first | exact ht5007_σ_3 | assumption
                  have ht5006_σ_4 : σ_4 5006 = (nI e1) := by rw [eσ_4, upd_ne (by first | omega | (simp only [vb] at *; omega))]; first | exact ht5006_σ_3 | assumption
                  have ht5005_σ_4 : σ_4 5005 = (nI 1) := by rw [eσ_4]; exact upd_eq
                  have hcTX_σ_4 : TX 5600 σ_4 L x := by rw [eσ_4]; exact TX.fr hcTX_σ_3 (fun a ha hb => upd_ne (by first | omega | (simp only [vb] at *; omega)))
                  have hcFR_σ_4 : ∀ a, (a < 5005 ∨ 5008 < a) → σ_4 a = σ a := by intro a ha; exact Eq.trans (b := σ_3 a) (by rw [eσ_4, upd_ne (by first | omega | (simp only [vb] at *; omega))]) (hcFR_σ_3 a ha)
                  exact g_vret h hQ dX12_ahead_229 rfl (by exact ⟨(by first | exact ht5004_σ_4 | assumption | fail), (by rw [hK]; exact ht5005_σ_4), (by rw [hS2]; exact ht5006_σ_4), (by rw [hE3]; exact ht5007_σ_4), (by first | exact hcTX_σ_4 | assumption | fail), (by first | (intro h2; rw [hK] at h2; exact absurd h2 (by decide)) | (intro h2; rw [hV]; exact ht5008_σ_4) | fail), (by exact hcFR_σ_4)⟩)
                ·
                  have hK : txK x L e = 3 := by rw [hl0.2, if_pos ((ba_eq hcTX_τ (by decide)).mp c218).2]
                  refine g_iconst h dX12_ahead_221 (by decide) ?_
                  refine g_goto h dX12_ahead_222 ?_
                  refine g_puti h dX12_ahead_226 pX12_196 sc_0 rfl ?_
                  refine g_nm (fun σ_5 eσ_5 => ?_)
                  have eσ_5 : σ_5 = upd σ_3 5005 (nI 4) := eσ_5
                  have ht5004_σ_5 : σ_5 5004 = (nI L) := by rw [eσ_5, upd_ne (by first | omega | (simp only [vb] at *; omega))]; first | exact ht5004_σ_3 | assumption
                  have ht5007_σ_5 : σ_5 5007 = (nI (e1 + 1)) := by rw [eσ_5, upd_ne (by first | omega | (simp only [vb] at *; omega))]; first | exact ht5007_σ_3 | assumption
                  have ht5006_σ_5 : σ_5 5006 = (nI e1) := by rw [eσ_5, upd_ne (by first | omega | (simp only [vb] at *; omega))]; first | exact ht5006_σ_3 | assumption
                  have ht5005_σ_5 : σ_5 5005 = (nI 4) := by rw [eσ_5]; exact upd_eq
                  have hcTX_σ_5 : TX 5600 σ_5 L x := by rw [eσ_5]; exact TX.fr hcTX_σ_3 (fun a ha hb => upd_ne (by first | omega | (simp only [vb] at *; omega)))
                  have hcFR_σ_5 : ∀ a, (a < 5005 ∨ 5008 < a) → σ_5 a = σ a := by intro a ha; exact Eq.trans (b := σ_3 a) (by rw [eσ_5, upd_ne (by first | omega | (simp only [vb] at *; omega))]) (hcFR_σ_3 a ha)
                  exact g_vret h hQ dX12_ahead_229 rfl (by exact ⟨(by first | exact ht5004_σ_5 | assumption | fail), (by rw [hK]; exact ht5005_σ_5), (by rw [hS2]; exact ht5006_σ_5), (by rw [hE3]; exact ht5007_σ_5), (by first | exact hcTX_σ_5 | assumption | fail), (by first | (intro h2; rw [hK] at h2; exact absurd h2 (by decide)) | (intro h2; rw [hV]; exact ht5008_σ_5) | fail), (by exact hcFR_σ_5)⟩)
              ·
                refine g_aload_n h dX12_ahead_118 0 rfl ?_
                refine g_iconst h dX12_ahead_119 (by decide) ?_
                refine g_puti h dX12_ahead_120 pX12_205 sc_0 rfl ?_
                refine g_nm (fun σ_6 eσ_6 => ?_)
                have eσ_6 : σ_6 = upd σ_2 5008 (nI 0) := eσ_6
                have ht5004_σ_6 : σ_6 5004 = (nI L) := by rw [eσ_6, upd_ne (by first | omega | (simp only [vb] at *; omega))]; first | exact ht5004_σ_2 | assumption
                have ht5007_σ_6 : σ_6 5007 = (nI e1) := by rw [eσ_6, upd_ne (by first | omega | (simp only [vb] at *; omega))]; first | exact ht5007_σ_2 | assumption
                have ht5006_σ_6 : σ_6 5006 = (nI e1) := by rw [eσ_6, upd_ne (by first | omega | (simp only [vb] at *; omega))]; first | exact ht5006_σ_2 | assumption
                have ht5008_σ_6 : σ_6 5008 = (nI 0) := by rw [eσ_6]; exact upd_eq
                have hcTX_σ_6 : TX 5600 σ_6 L x := by rw [eσ_6]; exact TX.fr hcTX_σ_2 (fun a ha hb => upd_ne (by first | omega | (simp only [vb] at *; omega)))
                have hcFR_σ_6 : ∀ a, (a < 5005 ∨ 5008 < a) → σ_6 a = σ a := by intro a ha; exact Eq.trans (b := σ_2 a) (by rw [eσ_6, upd_ne (by first | omega | (simp only [vb] at *; omega))]) (hcFR_σ_2 a ha)
                have lp123 : ∀ (k9 : Nat) (e2 : Nat) (v2 : Nat) (τ2 : Mem), (e2 ≤ L) → (e1 ≤ e2) → (txE x L e = rnx (fun k => dgC (x k)) L e2) → (v2 = txD x e1 (e2 - e1)) → (v2 ≤ 9999) → (τ2 5004 = (nI L)) → (τ2 5007 = (nI e2)) → (τ2 5006 = (nI e1)) → (τ2 5008 = (nI v2)) → (TX 5600 τ2 L x) → (∀ a, (a < 5005 ∨ 5008 < a) → τ2 a = σ a) → L + 1 - e2 < k9 → G X w 2 123 [(0, .ref (w.1 0)), (1, .int (ba x L e1))] [] (τ2) := by
                  intro k9
                  induction k9 with
                  | zero => intro e2 v2 τ2 he2 hle hE hv2 hv9 ht5004_τ2 ht5007_τ2 ht5006_τ2 ht5008_τ2 hcTX_τ2 hcFR_τ2 hm9; exact absurd hm9 (Nat.not_lt_zero _)
                  | succ k9 ih123 =>
                    intro e2 v2 τ2 he2 hle hE hv2 hv9 ht5004_τ2 ht5007_τ2 ht5006_τ2 ht5008_τ2 hcTX_τ2 hcFR_τ2 hm123
                    refine g_aload_n h dX12_ahead_123 0 rfl ?_
                    refine g_aload_n h dX12_ahead_124 0 rfl ?_
                    refine g_geti h dX12_ahead_125 gX12_187 sc_0 rfl ?_
                    refine g_top (y := (nI e2)) (by first | exact ht5007_τ2 | assumption) ?_
                    refine g_cvpi (rest := []) h (r_byteAt hW e2 L x (by first | omega | assumption | fail) (by omega) (by first | exact ht5004_τ2 | assumption | fail) (by first | exact hcTX_τ2 | assumption | fail)) lX12_byteAt mX12_190 (Nat.lt_of_lt_of_le (by decide) (Nat.le_refl _)) (by decide) sc_0 rfl rfl rfl rfl dX12_ahead_128 ?_
                    refine g_cspi (rest := []) h (r_isDigit hW (ba x L e2) ) lX12_isDigit mX12_202 (Nat.lt_of_lt_of_le (by decide) (Nat.le_refl _)) (by decide) rfl rfl rfl dX12_ahead_131 ?_
                    refine g_top (y := (b2i (decide (e2 < L) && dgC (x e2)))) (congrArg b2i (ba_dg hcTX_τ2)) ?_
                    refine g_ifB_eq h dX12_ahead_134 (fun c134 => ?_) (fun c134 => ?_)
                    ·
                      have hE3 : txE x L e = e2 := by rw [hE]; exact rnx_f (an_f c134)
                      have hV : txV x L e = v2 := by unfold txV; rw [hS2, hE3, hv2]
                      have hK0 := tx_dk (x := x) (L := L) (e := e) (by rw [hS2]; omega) (by rw [hS2, c73]; decide) (by rw [hS2]; exact c115)
                      rw [hE3, hS2] at hK0
                      refine g_aload_n h dX12_ahead_179 0 rfl ?_
                      refine g_aload_n h dX12_ahead_180 0 rfl ?_
                      refine g_geti h dX12_ahead_181 gX12_187 sc_0 rfl ?_
                      refine g_top (y := (nI e2)) (by first | exact ht5007_τ2 | assumption) ?_
                      refine g_aload_n h dX12_ahead_184 0 rfl ?_
                      refine g_geti h dX12_ahead_185 gX12_193 sc_0 rfl ?_
                      refine g_top (y := (nI e1)) (by first | exact ht5006_τ2 | assumption) ?_
                      refine g_isubN h dX12_ahead_188 (by omega) ?_
                      refine g_iconst h dX12_ahead_189 (by decide) ?_
                      refine g_icmpN_le h dX12_ahead_190 (by omega) (by omega) (fun c190 => ?_) (fun c190 => ?_)
                      ·
                        have hK : txK x L e = 2 := by rw [hK0, if_pos (by omega)]
                        refine g_iconst h dX12_ahead_197 (by decide) ?_
                        refine g_puti h dX12_ahead_198 pX12_196 sc_0 rfl ?_
                        refine g_nm (fun σ_7 eσ_7 => ?_)
                        have eσ_7 : σ_7 = upd (τ2) 5005 (nI 3) := eσ_7
                        have ht5004_σ_7 : σ_7 5004 = (nI L) := by rw [eσ_7, upd_ne (by first | omega | (simp only [vb] at *; omega))]; first | exact ht5004_τ2 | assumption
                        have ht5007_σ_7 : σ_7 5007 = (nI e2) := by rw [eσ_7, upd_ne (by first | omega | (simp only [vb] at *; omega))]; first | exact ht5007_τ2 | assumption
                        have ht5006_σ_7 : σ_7 5006 = (nI e1) := by rw [eσ_7, upd_ne (by first | omega | (simp only [vb] at *; omega))]; first | exact ht5006_τ2 | assumption
                        have ht5008_σ_7 : σ_7 5008 = (nI v2) := by rw [eσ_7, upd_ne (by first | omega | (simp only [vb] at *; omega))]; first | exact ht5008_τ2 | assumption
                        have ht5005_σ_7 : σ_7 5005 = (nI 3) := by rw [eσ_7]; exact upd_eq
                        have hcTX_σ_7 : TX 5600 σ_7 L x := by rw [eσ_7]; exact TX.fr hcTX_τ2 (fun a ha hb => upd_ne (by first | omega | (simp only [vb] at *; omega)))
                        have hcFR_σ_7 : ∀ a, (a < 5005 ∨ 5008 < a) → σ_7 a = σ a := by intro a ha; exact Eq.trans (b := (τ2) a) (by rw [eσ_7, upd_ne (by first | omega | (simp only [vb] at *; omega))]) (hcFR_τ2 a ha)
                        refine g_goto h dX12_ahead_201 ?_
                        exact g_vret h hQ dX12_ahead_229 rfl (by exact ⟨(by first | exact ht5004_σ_7 | assumption | fail), (by rw [hK]; exact ht5005_σ_7), (by rw [hS2]; exact ht5006_σ_7), (by rw [hE3]; exact ht5007_σ_7), (by first | exact hcTX_σ_7 | assumption | fail), (by first | (intro h2; rw [hK] at h2; exact absurd h2 (by decide)) | (intro h2; rw [hV]; exact ht5008_σ_7) | fail), (by exact hcFR_σ_7)⟩)
                      ·
                        have hK : txK x L e = 4 := by rw [hK0, if_neg (by omega)]
                        refine g_iconst h dX12_ahead_193 (by decide) ?_
                        refine g_goto h dX12_ahead_194 ?_
                        refine g_puti h dX12_ahead_198 pX12_196 sc_0 rfl ?_
                        refine g_nm (fun σ_8 eσ_8 => ?_)
                        have eσ_8 : σ_8 = upd (τ2) 5005 (nI 1) := eσ_8
                        have ht5004_σ_8 : σ_8 5004 = (nI L) := by rw [eσ_8, upd_ne (by first | omega | (simp only [vb] at *; omega))]; first | exact ht5004_τ2 | assumption
                        have ht5007_σ_8 : σ_8 5007 = (nI e2) := by rw [eσ_8, upd_ne (by first | omega | (simp only [vb] at *; omega))]; first | exact ht5007_τ2 | assumption
                        have ht5006_σ_8 : σ_8 5006 = (nI e1) := by rw [eσ_8, upd_ne (by first | omega | (simp only [vb] at *; omega))]; first | exact ht5006_τ2 | assumption
                        have ht5008_σ_8 : σ_8 5008 = (nI v2) := by rw [eσ_8, upd_ne (by first | omega | (simp only [vb] at *; omega))]; first | exact ht5008_τ2 | assumption
                        have ht5005_σ_8 : σ_8 5005 = (nI 1) := by rw [eσ_8]; exact upd_eq
                        have hcTX_σ_8 : TX 5600 σ_8 L x := by rw [eσ_8]; exact TX.fr hcTX_τ2 (fun a ha hb => upd_ne (by first | omega | (simp only [vb] at *; omega)))
                        have hcFR_σ_8 : ∀ a, (a < 5005 ∨ 5008 < a) → σ_8 a = σ a := by intro a ha; exact Eq.trans (b := (τ2) a) (by rw [eσ_8, upd_ne (by first | omega | (simp only [vb] at *; omega))]) (hcFR_τ2 a ha)
                        refine g_goto h dX12_ahead_201 ?_
                        exact g_vret h hQ dX12_ahead_229 rfl (by exact ⟨(by first | exact ht5004_σ_8 | assumption | fail), (by rw [hK]; exact ht5005_σ_8), (by rw [hS2]; exact ht5006_σ_8), (by rw [hE3]; exact ht5007_σ_8), (by first | exact hcTX_σ_8 | assumption | fail), (by first | (intro h2; rw [hK] at h2; exact absurd h2 (by decide)) | (intro h2; rw [hV]; exact ht5008_σ_8) | fail), (by exact hcFR_σ_8)⟩)
                    ·
                      have hq := an_t c134
                      have hd9 := dg_i hq.2
                      have hx8 := (hcTX_τ e2 hq.1).1
                      refine g_aload_n h dX12_ahead_137 0 rfl ?_
                      refine g_sipush h dX12_ahead_138 (by decide) ?_
                      refine g_bipush h dX12_ahead_141 (by decide) ?_
                      refine g_aload_n h dX12_ahead_143 0 rfl ?_
                      refine g_geti h dX12_ahead_144 gX12_205 sc_0 rfl ?_
                      refine g_top (y := (nI v2)) (by first | exact ht5008_τ2 | assumption) ?_
                      refine g_imulN h dX12_ahead_147  ?_
                      refine g_aload_n h dX12_ahead_148 0 rfl ?_
                      refine g_aload_n h dX12_ahead_149 0 rfl ?_
                      refine g_geti h dX12_ahead_150 gX12_187 sc_0 rfl ?_
                      refine g_top (y := (nI e2)) (by first | exact ht5007_τ2 | assumption) ?_
                      refine g_cvpi (rest := [.int (nI (10 * v2)), .int (nI 9999), .ref (w.1 0)]) h (r_byteAt hW e2 L x (by first | omega | assumption | fail) (by omega) (by first | exact ht5004_τ2 | assumption | fail) (by first | exact hcTX_τ2 | assumption | fail)) lX12_byteAt mX12_190 (Nat.lt_of_lt_of_le (by decide) (Nat.le_refl _)) (by decide) sc_0 rfl rfl rfl rfl dX12_ahead_153 ?_
                      refine g_top (y := (nI (x e2))) (ba_yes hq.1) ?_
                      refine g_iaddN h dX12_ahead_156  ?_
                      refine g_bipush h dX12_ahead_157 (by decide) ?_
                      refine g_isubN h dX12_ahead_159 (by omega) ?_
                      refine g_cspi (rest := [.ref (w.1 0)]) h (j_minB hW 9999 ((10 * v2 + x e2) - 48) (by omega) (by omega)) lJ9_min_7cf53 mX12_208 (Nat.lt_of_lt_of_le (by decide) (Nat.le_refl _)) (by decide) rfl rfl rfl dX12_ahead_160 ?_
                      refine g_puti h dX12_ahead_163 pX12_205 sc_0 rfl ?_
                      refine g_nm (fun σ_9 eσ_9 => ?_)
                      have eσ_9 : σ_9 = upd (τ2) 5008 (nI (min 9999 ((10 * v2 + x e2) - 48))) := eσ_9
                      have ht5004_σ_9 : σ_9 5004 = (nI L) := by rw [eσ_9, upd_ne (by first | omega | (simp only [vb] at *; omega))]; first | exact ht5004_τ2 | assumption
                      have ht5007_σ_9 : σ_9 5007 = (nI e2) := by rw [eσ_9, upd_ne (by first | omega | (simp only [vb] at *; omega))]; first | exact ht5007_τ2 | assumption
                      have ht5006_σ_9 : σ_9 5006 = (nI e1) := by rw [eσ_9, upd_ne (by first | omega | (simp only [vb] at *; omega))]; first | exact ht5006_τ2 | assumption
                      have ht5008_σ_9 : σ_9 5008 = (nI (min 9999 ((10 * v2 + x e2) - 48))) := by rw [eσ_9]; exact upd_eq
                      have hcTX_σ_9 : TX 5600 σ_9 L x := by rw [eσ_9]; exact TX.fr hcTX_τ2 (fun a ha hb => upd_ne (by first | omega | (simp only [vb] at *; omega)))
                      have hcFR_σ_9 : ∀ a, (a < 5005 ∨ 5008 < a) → σ_9 a = σ a := by intro a ha; exact Eq.trans (b := (τ2) a) (by rw [eσ_9, upd_ne (by first | omega | (simp only [vb] at *; omega))]) (hcFR_τ2 a ha)
                      refine g_aload_n h dX12_ahead_166 0 rfl ?_
                      refine g_dup h dX12_ahead_167 rfl ?_
                      refine g_geti h dX12_ahead_168 gX12_187 sc_0 rfl ?_
                      refine g_top (y := (nI e2)) (by first | exact ht5007_σ_9 | assumption) ?_
                      refine g_iconst h dX12_ahead_171 (by decide) ?_
                      refine g_iaddN h dX12_ahead_172  ?_
                      refine g_puti h dX12_ahead_173 pX12_187 sc_0 rfl ?_
                      refine g_nm (fun σ_10 eσ_10 => ?_)
                      have eσ_10 : σ_10 = upd σ_9 5007 (nI (e2 + 1)) := eσ_10
                      have ht5004_σ_10 : σ_10 5004 = (nI L) := by rw [eσ_10, upd_ne (by first | omega | (simp only [vb] at *; omega))]; first | exact ht5004_σ_9 | assumption
                      have ht5007_σ_10 : σ_10 5007 = (nI (e2 + 1)) := by rw [eσ_10]; exact upd_eq
                      have ht5006_σ_10 : σ_10 5006 = (nI e1) := by rw [eσ_10, upd_ne (by first | omega | (simp only [vb] at *; omega))]; first | exact ht5006_σ_9 | assumption
                      have ht5008_σ_10 : σ_10 5008 = (nI (min 9999 ((10 * v2 + x e2) - 48))) := by rw [eσ_10, upd_ne (by first | omega | (simp only [vb] at *; omega))]; first | exact ht5008_σ_9 | assumption
                      have hcTX_σ_10 : TX 5600 σ_10 L x := by rw [eσ_10]; exact TX.fr hcTX_σ_9 (fun a ha hb => upd_ne (by first | omega | (simp only [vb] at *; omega)))
                      have hcFR_σ_10 : ∀ a, (a < 5005 ∨ 5008 < a) → σ_10 a = σ a := by intro a ha; exact Eq.trans (b := σ_9 a) (by rw [eσ_10, upd_ne (by first | omega | (simp only [vb] at *; omega))]) (hcFR_σ_9 a ha)
                      refine g_goto h dX12_ahead_176 ?_
                      exact ih123 (e2 + 1) (min 9999 ((10 * v2 + x e2) - 48)) σ_10 (by omega) (by omega) (by rw [hE]; exact rnx_t hq.1 hq.2) (by rw [show e2 + 1 - e1 = (e2 - e1) + 1 from by omega]; show _ = min 9999 (10 * txD x e1 (e2 - e1) + (x (e1 + (e2 - e1)) - 48)); rw [← hv2, show e1 + (e2 - e1) = e2 from by omega]; congr 1; omega) (by omega) (by first | exact ht5004_σ_10 | assumption | fail | fail) (by first | exact ht5007_σ_10 | assumption | fail | fail) (by first | exact ht5006_σ_10 | assumption | fail | fail) (by first | exact ht5008_σ_10 | assumption | fail | fail) (by first | exact hcTX_σ_10 | assumption | fail | fail) (by first | exact hcFR_σ_10 | assumption | fail | fail) (by omega)
                exact lp123 (_) e1 0 σ_6 (by omega) (by omega) (by rw [tx_dg (x := x) (L := L) (e := e) (by rw [hS2]; omega) (by rw [hS2, c73]; decide) (by rw [hS2]; exact c115), hS2]) (by rw [Nat.sub_self]; rfl) (by omega) (by first | exact ht5004_σ_6 | assumption | fail | fail) (by first | exact ht5007_σ_6 | assumption | fail | fail) (by first | exact ht5006_σ_6 | assumption | fail | fail) (by first | exact ht5008_σ_6 | assumption | fail | fail) (by first | exact hcTX_σ_6 | assumption | fail | fail) (by first | exact hcFR_σ_6 | assumption | fail | fail) (Nat.lt_succ_self _)
            ·
              have lp76 : ∀ (k9 : Nat) (e2 : Nat) (τ2 : Mem), (e2 ≤ L) → (e1 ≤ e2) → (txE x L e = rnx (fun k => leC (x k)) L e2) → (τ2 5004 = (nI L)) → (τ2 5007 = (nI e2)) → (τ2 5006 = (nI e1)) → (TX 5600 τ2 L x) → (∀ a, (a < 5005 ∨ 5008 < a) → τ2 a = σ a) → L + 1 - e2 < k9 → G X w 2 76 [(0, .ref (w.1 0)), (1, .int (ba x L e1))] [] (τ2) := by
                intro k9
                induction k9 with
                | zero => intro e2 τ2 he2 hle hE ht5004_τ2 ht5007_τ2 ht5006_τ2 hcTX_τ2 hcFR_τ2 hm9; exact absurd hm9 (Nat.not_lt_zero _)
                | succ k9 ih76 =>
                  intro e2 τ2 he2 hle hE ht5004_τ2 ht5007_τ2 ht5006_τ2 hcTX_τ2 hcFR_τ2 hm76
                  refine g_aload_n h dX12_ahead_76 0 rfl ?_
                  refine g_aload_n h dX12_ahead_77 0 rfl ?_
                  refine g_geti h dX12_ahead_78 gX12_187 sc_0 rfl ?_
                  refine g_top (y := (nI e2)) (by first | exact ht5007_τ2 | assumption) ?_
                  refine g_cvpi (rest := []) h (r_byteAt hW e2 L x (by first | omega | assumption | fail) (by omega) (by first | exact ht5004_τ2 | assumption | fail) (by first | exact hcTX_τ2 | assumption | fail)) lX12_byteAt mX12_190 (Nat.lt_of_lt_of_le (by decide) (Nat.le_refl _)) (by decide) sc_0 rfl rfl rfl rfl dX12_ahead_81 ?_
                  refine g_cspi (rest := []) h (r_isSmall hW (ba x L e2) ) lX12_isSmall mX12_199 (Nat.lt_of_lt_of_le (by decide) (Nat.le_refl _)) (by decide) rfl rfl rfl dX12_ahead_84 ?_
                  refine g_top (y := (b2i (decide (e2 < L) && leC (x e2)))) (congrArg b2i (ba_le hcTX_τ2)) ?_
                  refine g_ifB_eq h dX12_ahead_87 (fun c87 => ?_) (fun c87 => ?_)
                  ·
                    have hE3 : txE x L e = e2 := by rw [hE]; exact rnx_f (an_f c87)
                    have hK : txK x L e = 1 := (tx_le (x := x) (L := L) (e := e) (by rw [hS2]; omega) (by rw [hS2]; exact c73)).2
                    refine g_aload_n h dX12_ahead_103 0 rfl ?_
                    refine g_iconst h dX12_ahead_104 (by decide) ?_
                    refine g_puti h dX12_ahead_105 pX12_196 sc_0 rfl ?_
                    refine g_nm (fun σ_11 eσ_11 => ?_)
                    have eσ_11 : σ_11 = upd (τ2) 5005 (nI 2) := eσ_11
                    have ht5004_σ_11 : σ_11 5004 = (nI L) := by rw [eσ_11, upd_ne (by first | omega | (simp only [vb] at *; omega))]; first | exact ht5004_τ2 | assumption
                    have ht5007_σ_11 : σ_11 5007 = (nI e2) := by rw [eσ_11, upd_ne (by first | omega | (simp only [vb] at *; omega))]; first | exact ht5007_τ2 | assumption
                    have ht5006_σ_11 : σ_11 5006 = (nI e1) := by rw [eσ_11, upd_ne (by first | omega | (simp only [vb] at *; omega))]; first | exact ht5006_τ2 | assumption
                    have ht5005_σ_11 : σ_11 5005 = (nI 2) := by rw [eσ_11]; exact upd_eq
                    have hcTX_σ_11 : TX 5600 σ_11 L x := by rw [eσ_11]; exact TX.fr hcTX_τ2 (fun a ha hb => upd_ne (by first | omega | (simp only [vb] at *; omega)))
                    have hcFR_σ_11 : ∀ a, (a < 5005 ∨ 5008 < a) → σ_11 a = σ a := by intro a ha; exact Eq.trans (b := (τ2) a) (by rw [eσ_11, upd_ne (by first | omega | (simp only [vb] at *; omega))]) (hcFR_τ2 a ha)
                    refine g_goto h dX12_ahead_108 ?_
                    exact g_vret h hQ dX12_ahead_229 rfl (by exact ⟨(by first | exact ht5004_σ_11 | assumption | fail), (by rw [hK]; exact ht5005_σ_11), (by rw [hS2]; exact ht5006_σ_11), (by rw [hE3]; exact ht5007_σ_11), (by first | exact hcTX_σ_11 | assumption | fail), (by first | (intro h2; rw [hK] at h2; exact absurd h2 (by decide)) | (intro h2; rw [hV]; exact ht5008_σ_11) | fail), (by exact hcFR_σ_11)⟩)
                  ·
                    have hq := an_t c87
                    refine g_aload_n h dX12_ahead_90 0 rfl ?_
                    refine g_dup h dX12_ahead_91 rfl ?_
                    refine g_geti h dX12_ahead_92 gX12_187 sc_0 rfl ?_
                    refine g_top (y := (nI e2)) (by first | exact ht5007_τ2 | assumption) ?_
                    refine g_iconst h dX12_ahead_95 (by decide) ?_
                    refine g_iaddN h dX12_ahead_96  ?_
                    refine g_puti h dX12_ahead_97 pX12_187 sc_0 rfl ?_
                    refine g_nm (fun σ_12 eσ_12 => ?_)
                    have eσ_12 : σ_12 = upd (τ2) 5007 (nI (e2 + 1)) := eσ_12
                    have ht5004_σ_12 : σ_12 5004 = (nI L) := by rw [eσ_12, upd_ne (by first | omega | (simp only [vb] at *; omega))]; first | exact ht5004_τ2 | assumption
                    have ht5007_σ_12 : σ_12 5007 = (nI (e2 + 1)) := by rw [eσ_12]; exact upd_eq
                    have ht5006_σ_12 : σ_12 5006 = (nI e1) := by rw [eσ_12, upd_ne (by first | omega | (simp only [vb] at *; omega))]; first | exact ht5006_τ2 | assumption
                    have hcTX_σ_12 : TX 5600 σ_12 L x := by rw [eσ_12]; exact TX.fr hcTX_τ2 (fun a ha hb => upd_ne (by first | omega | (simp only [vb] at *; omega)))
                    have hcFR_σ_12 : ∀ a, (a < 5005 ∨ 5008 < a) → σ_12 a = σ a := by intro a ha; exact Eq.trans (b := (τ2) a) (by rw [eσ_12, upd_ne (by first | omega | (simp only [vb] at *; omega))]) (hcFR_τ2 a ha)
                    refine g_goto h dX12_ahead_100 ?_
                    exact ih76 (e2 + 1) σ_12 (by omega) (by omega) (by rw [hE]; exact rnx_t hq.1 hq.2) (by first | exact ht5004_σ_12 | assumption | fail | fail) (by first | exact ht5007_σ_12 | assumption | fail | fail) (by first | exact ht5006_σ_12 | assumption | fail | fail) (by first | exact hcTX_σ_12 | assumption | fail | fail) (by first | exact hcFR_σ_12 | assumption | fail | fail) (by omega)
              exact lp76 (_) e1 σ_2 (by omega) (by omega) (by rw [(tx_le (x := x) (L := L) (e := e) (by rw [hS2]; omega) (by rw [hS2]; exact c73)).1, hS2]) (by first | exact ht5004_σ_2 | assumption | fail | fail) (by first | exact ht5007_σ_2 | assumption | fail | fail) (by first | exact ht5006_σ_2 | assumption | fail | fail) (by first | exact hcTX_σ_2 | assumption | fail | fail) (by first | exact hcFR_σ_2 | assumption | fail | fail) (Nat.lt_succ_self _)
          ·
            have hx9 : L ≤ txS x L e := by rw [hS2]; exact (ba_m1 hcTX_τ).mp c58
            have hK : txK x L e = 0 := (tx_end hx9).2
            have hE3 : txE x L e = e1 := by rw [(tx_end hx9).1, hS2]
            refine g_aload_n h dX12_ahead_61 0 rfl ?_
            refine g_iconst h dX12_ahead_62 (by decide) ?_
            refine g_puti h dX12_ahead_63 pX12_196 sc_0 rfl ?_
            refine g_nm (fun σ_13 eσ_13 => ?_)
            have eσ_13 : σ_13 = upd σ_2 5005 (nI 0) := eσ_13
            have ht5004_σ_13 : σ_13 5004 = (nI L) := by rw [eσ_13, upd_ne (by first | omega | (simp only [vb] at *; omega))]; first | exact ht5004_σ_2 | assumption
            have ht5007_σ_13 : σ_13 5007 = (nI e1) := by rw [eσ_13, upd_ne (by first | omega | (simp only [vb] at *; omega))]; first | exact ht5007_σ_2 | assumption
            have ht5006_σ_13 : σ_13 5006 = (nI e1) := by rw [eσ_13, upd_ne (by first | omega | (simp only [vb] at *; omega))]; first | exact ht5006_σ_2 | assumption
            have ht5005_σ_13 : σ_13 5005 = (nI 0) := by rw [eσ_13]; exact upd_eq
            have hcTX_σ_13 : TX 5600 σ_13 L x := by rw [eσ_13]; exact TX.fr hcTX_σ_2 (fun a ha hb => upd_ne (by first | omega | (simp only [vb] at *; omega)))
            have hcFR_σ_13 : ∀ a, (a < 5005 ∨ 5008 < a) → σ_13 a = σ a := by intro a ha; exact Eq.trans (b := σ_2 a) (by rw [eσ_13, upd_ne (by first | omega | (simp only [vb] at *; omega))]) (hcFR_σ_2 a ha)
            refine g_goto h dX12_ahead_66 ?_
            exact g_vret h hQ dX12_ahead_229 rfl (by exact ⟨(by first | exact ht5004_σ_13 | assumption | fail), (by rw [hK]; exact ht5005_σ_13), (by rw [hS2]; exact ht5006_σ_13), (by rw [hE3]; exact ht5007_σ_13), (by first | exact hcTX_σ_13 | assumption | fail), (by first | (intro h2; rw [hK] at h2; exact absurd h2 (by decide)) | (intro h2; rw [hV]; exact ht5008_σ_13) | fail), (by exact hcFR_σ_13)⟩)
        ·
          have hbl : e1 < L ∧ blC (x e1) = true := by first | exact bl_1 hcTX_τ c10 | exact bl_2 hcTX_τ c23
          refine g_aload_n h dX12_ahead_26 0 rfl ?_
          refine g_dup h dX12_ahead_27 rfl ?_
          refine g_geti h dX12_ahead_28 gX12_187 sc_0 rfl ?_
          refine g_top (y := (nI e1)) (by first | exact ht5007_τ | assumption) ?_
          refine g_iconst h dX12_ahead_31 (by decide) ?_
          refine g_iaddN h dX12_ahead_32  ?_
          refine g_puti h dX12_ahead_33 pX12_187 sc_0 rfl ?_
          refine g_nm (fun σ_14 eσ_14 => ?_)
          have eσ_14 : σ_14 = upd (τ) 5007 (nI (e1 + 1)) := eσ_14
          have ht5004_σ_14 : σ_14 5004 = (nI L) := by rw [eσ_14, upd_ne (by first | omega | (simp only [vb] at *; omega))]; first | exact ht5004_τ | assumption
          have ht5007_σ_14 : σ_14 5007 = (nI (e1 + 1)) := by rw [eσ_14]; exact upd_eq
          have hcTX_σ_14 : TX 5600 σ_14 L x := by rw [eσ_14]; exact TX.fr hcTX_τ (fun a ha hb => upd_ne (by first | omega | (simp only [vb] at *; omega)))
          have hcFR_σ_14 : ∀ a, (a < 5005 ∨ 5008 < a) → σ_14 a = σ a := by intro a ha; exact Eq.trans (b := (τ) a) (by rw [eσ_14, upd_ne (by first | omega | (simp only [vb] at *; omega))]) (hcFR_τ a ha)
          refine g_goto h dX12_ahead_36 ?_
          exact ih0 (e1 + 1) σ_14 (by omega) (by rw [hS]; exact rnx_t hbl.1 hbl.2) (by first | exact ht5004_σ_14 | assumption | fail | fail) (by first | exact ht5007_σ_14 | assumption | fail | fail) (by first | exact hcTX_σ_14 | assumption | fail | fail) (by first | exact hcFR_σ_14 | assumption | fail | fail) (by omega)
  exact lp0 (_) e σ (by omega) (by rfl) (by first | exact ht5004_σ | assumption | fail | fail) (by first | exact ht5007_σ | assumption | fail | fail) (by first | exact hcTX_σ | assumption | fail | fail) (by first | exact hcFR_σ | assumption | fail | fail) (Nat.lt_succ_self _)

set_option maxRecDepth 100000 in
set_option maxHeartbeats 16000000 in
theorem r_key {l : Launch} {w : Wd} (hW : Wi w) {σ : Mem} (e L : Nat) (x : Nat → Nat) (he : e ≤ L) (hL : L ≤ 400) (ht5004_σ : σ 5004 = (nI L)) (ht5005_σ : σ 5005 = (nI (kr (txK x L e)))) (ht5006_σ : σ 5006 = (nI (txS x L e))) (ht5007_σ : σ 5007 = (nI (txE x L e))) (hcTX_σ : TX 5600 σ L x) : MC l w qX12_key 4 [.ref (w.1 0)] σ (some (.int (oI (kyO x L e)))) (fun σ' => σ' = σ) := by
  refine MC.of hW (by decide +kernel) (Nat.le_of_ble_eq_true rfl) (fun X h hQ hnm => ?_)
  have h : Fx X w cX12_key 6 RX12 4 := h
  have hQ : Qx X w (some .int) (some (.int (oI (kyO x L e)))) (fun σ' => σ' = σ) := hQ
  have hb := tx_b (x := x) he
  have h5 := (kr_i (x := x) (L := L) (e := e)).2.2.2.2.2
  show G X w 6 0 [(0, .ref (w.1 0))] [] σ
  refine g_aload_n h dX12_key_0 0 rfl ?_
  refine g_geti h dX12_key_1 gX12_196 sc_0 rfl ?_
  refine g_top (y := (nI (kr (txK x L e)))) (by first | exact ht5005_σ | assumption) ?_
  refine g_iconst h dX12_key_4 (by decide) ?_
  refine g_icmpN_eq h dX12_key_5 (by omega) (by omega) (fun c5 => ?_) (fun c5 => ?_)
  ·
    refine g_iconst h dX12_key_10 (by decide) ?_
    refine g_istore_n (L' := [(0, .ref (w.1 0)), (1, .int (nI 0))]) h dX12_key_11 rfl (by decide) rfl ?_
    refine g_iconst h dX12_key_12 (by decide) ?_
    refine g_istore_n (L' := [(0, .ref (w.1 0)), (1, .int (nI 0)), (2, .int (nI 1))]) h dX12_key_13 rfl (by decide) rfl ?_
    have lp14 : ∀ (k9 : Nat) (m : Nat) (k : Nat), (m ≤ 8) → (k = kp m) → (∀ q, q < m → eqW x (txS x L e) (txE x L e - txS x L e) q = false) → 8 - m < k9 → G X w 6 14 [(0, .ref (w.1 0)), (1, .int (nI m)), (2, .int (nI k))] [] σ := by
      intro k9
      induction k9 with
      | zero => intro m k hm hk hno hm9; exact absurd hm9 (Nat.not_lt_zero _)
      | succ k9 ih14 =>
        intro m k hm hk hno hm14
        have hkb : k ≤ 39 := by rw [hk]; exact kp_b hm
        refine g_iload_n h dX12_key_14 2 rfl ?_
        refine g_ldcS (i := 8) h dX12_key_15 (by decide) rfl rfl ?_
        refine g_cSpi (rest := [.int (nI k)]) h (j_length hW 8 (by first | decide | omega | fail)) lJ0_length_8abf5 mX12_213 (Nat.lt_of_lt_of_le (by decide) (Nat.le_refl _)) (by decide) (by first | decide | omega) rfl rfl rfl rfl dX12_key_17 ?_
        refine g_top (y := (nI 39)) (by rw [sl_8]) ?_
        refine g_icmpN_ge h dX12_key_20 (by omega) (by omega) (fun c20 => ?_) (fun c20 => ?_)
        ·
          have hW : txW x L e = none := fs_none (fun q hq => hno q (by rcases Nat.lt_or_ge m 8 with z | z; (exfalso; have := kp_i z; omega); omega))
          refine g_iconstv h dX12_key_133 (v := (-1)) (by decide) ?_
          exact g_iret h hQ dX12_key_134 (congrArg (fun z => some (Value.int z)) (show (oI (kyO x L e)) = (-1) by first | (rw [show kyO x L e = none from if_neg (fun z => c5 (kr_i.2.2.1.mpr z))]; rfl) | (rw [show kyO x L e = txW x L e from if_pos (kr_i.2.2.1.mp c5), hW]; rfl) | fail)) rfl
        ·
          have hm8 : m < 8 := by rcases Nat.lt_or_ge m 8 with q | q; exact q; exfalso; rw [show m = 8 by omega] at hk; have : kp 8 = 39 := rfl; omega
          have hp := kp_i hm8
          have hsl := sl_i (i := m) (by omega)
          refine g_iload_n h dX12_key_23 2 rfl ?_
          refine g_istore_n (L' := [(0, .ref (w.1 0)), (1, .int (nI m)), (2, .int (nI k)), (3, .int (nI k))]) h dX12_key_24 rfl (by decide) rfl ?_
          have lp25 : ∀ (k9 : Nat) (ee : Nat), (k ≤ ee) → (ee ≤ k + sl m) → k + sl m - ee < k9 → G X w 6 25 [(0, .ref (w.1 0)), (1, .int (nI m)), (2, .int (nI k)), (3, .int (nI ee))] [] σ := by
            intro k9
            induction k9 with
            | zero => intro ee hee1 hee2 hm9; exact absurd hm9 (Nat.not_lt_zero _)
            | succ k9 ih25 =>
              intro ee hee1 hee2 hm25
              refine g_ldcS (i := 8) h dX12_key_25 (by decide) rfl rfl ?_
              refine g_iload_n h dX12_key_27 3 rfl ?_
              refine g_cSpi (rest := []) h (j_charAt hW 8 ee (by first | decide | omega | fail) (by rw [sl_8]; omega)) lJ0_charAt_5068e mX12_219 (Nat.lt_of_lt_of_le (by decide) (Nat.le_refl _)) (by decide) (by first | decide | omega) rfl rfl rfl rfl dX12_key_28 ?_
              have hs9 := (sc_i (i := 8) (j := ee) (by decide) (by rw [sl_8]; omega)).1
              refine g_bipush h dX12_key_31 (by decide) ?_
              refine g_icmpN_eq h dX12_key_33 (by omega) (by omega) (fun c33 => ?_) (fun c33 => ?_)
              ·
                have hee : ee = k + sl m := by rcases Nat.lt_or_ge ee (k + sl m) with q | q; (exfalso; have := hp.2.2.2.2 (ee - k) (by omega); rw [show kp m + (ee - k) = ee from by omega, c33] at this; exact this.2 this.1.symm); omega
                refine g_iload_n h dX12_key_42 3 rfl ?_
                refine g_iload_n h dX12_key_43 2 rfl ?_
                refine g_isubN h dX12_key_44 (by omega) ?_
                refine g_aload_n h dX12_key_45 0 rfl ?_
                refine g_geti h dX12_key_46 gX12_187 sc_0 rfl ?_
                refine g_top (y := (nI (txE x L e))) (by first | exact ht5007_σ | assumption) ?_
                refine g_aload_n h dX12_key_49 0 rfl ?_
                refine g_geti h dX12_key_50 gX12_193 sc_0 rfl ?_
                refine g_top (y := (nI (txS x L e))) (by first | exact ht5006_σ | assumption) ?_
                refine g_isubN h dX12_key_53 (by omega) ?_
                refine g_icmpN_ne h dX12_key_54 (by omega) (by omega) (fun c54 => ?_) (fun c54 => ?_)
                ·
                  refine g_iconst h dX12_key_61 (by decide) ?_
                  refine g_istore (L' := [(0, .ref (w.1 0)), (1, .int (nI m)), (2, .int (nI k)), (3, .int (nI ee)), (4, .int (nI 0))]) h dX12_key_62 rfl (by decide) rfl ?_
                  refine g_iconst h dX12_key_64 (by decide) ?_
                  refine g_istore (L' := [(0, .ref (w.1 0)), (1, .int (nI m)), (2, .int (nI k)), (3, .int (nI ee)), (4, .int (nI 0)), (5, .int (nI 0))]) h dX12_key_65 rfl (by decide) rfl ?_
                  have lp67 : ∀ (k9 : Nat) (lk : Bool) (i : Nat), (i ≤ ee - k) → (lk = (decide ((txE x L e - txS x L e) = sl m) && !anyB (fun j => !decide (x (txS x L e + j) = sc m j)) i)) → ee - k - i < k9 → G X w 6 67 [(0, .ref (w.1 0)), (1, .int (nI m)), (2, .int (nI k)), (3, .int (nI ee)), (4, .int (b2i lk)), (5, .int (nI i))] [] σ := by
                    intro k9
                    induction k9 with
                    | zero => intro lk i hi hlk hm9; exact absurd hm9 (Nat.not_lt_zero _)
                    | succ k9 ih67 =>
                      intro lk i hi hlk hm67
                      refine g_iload h dX12_key_67 5 rfl ?_
                      refine g_iload_n h dX12_key_69 3 rfl ?_
                      refine g_iload_n h dX12_key_70 2 rfl ?_
                      refine g_isubN h dX12_key_71 (by omega) ?_
                      refine g_icmpN_ge h dX12_key_72 (by omega) (by omega) (fun c72 => ?_) (fun c72 => ?_)
                      ·
                        have hq9 : eqW x (txS x L e) (txE x L e - txS x L e) m = lk := by first | exact kl_e2 hlk c77 (by omega) | exact kl_e1 hlk (by omega)
                        refine g_iload h dX12_key_116 4 rfl ?_
                        refine g_ifB_eq h dX12_key_118 (fun c118 => ?_) (fun c118 => ?_)
                        ·
                          refine g_iincN (b := 1) (L' := [(0, .ref (w.1 0)), (1, .int (nI (m + 1))), (2, .int (nI k)), (3, .int (nI ee)), (4, .int (b2i lk)), (5, .int (nI i))]) h dX12_key_123 1 rfl rfl (by decide) (by decide) rfl ?_
                          refine g_iload_n h dX12_key_126 3 rfl ?_
                          refine g_iconst h dX12_key_127 (by decide) ?_
                          refine g_iaddN h dX12_key_128  ?_
                          refine g_istore_n (L' := [(0, .ref (w.1 0)), (1, .int (nI (m + 1))), (2, .int (nI (ee + 1))), (3, .int (nI ee)), (4, .int (b2i lk)), (5, .int (nI i))]) h dX12_key_129 rfl (by decide) rfl ?_
                          refine g_goto h dX12_key_130 ?_
                          exact g_sub [0, 1, 2] rfl (ih14 (m + 1) (ee + 1) (by omega) (by rw [hp.2.1]; omega) (by intro q hq; exact if e9 : q = m then (by rw [e9, hq9]; exact c118) else hno q (by omega)) (by omega))
                        ·
                          have hW : txW x L e = some m := fs_here hno (by rw [hq9]; exact c118) 8 hm8
                          refine g_iload_n h dX12_key_121 1 rfl ?_
                          exact g_iret h hQ dX12_key_122 (congrArg (fun z => some (Value.int z)) (show (oI (kyO x L e)) = (nI m) by first | (rw [show kyO x L e = none from if_neg (fun z => c5 (kr_i.2.2.1.mpr z))]; rfl) | (rw [show kyO x L e = txW x L e from if_pos (kr_i.2.2.1.mp c5), hW]; rfl) | fail)) rfl
                      ·
                        refine g_iload h dX12_key_75 4 rfl ?_
                        refine g_ifB_eq h dX12_key_77 (fun c77 => ?_) (fun c77 => ?_)
                        ·
                          have hq9 : eqW x (txS x L e) (txE x L e - txS x L e) m = lk := by first | exact kl_e2 hlk c77 (by omega) | exact kl_e1 hlk (by omega)
                          refine g_iload h dX12_key_116 4 rfl ?_
                          refine g_ifB_eq h dX12_key_118 (fun c118 => ?_) (fun c118 => absurd (c77.symm.trans c118) (by decide))
                          refine g_iincN (b := 1) (L' := [(0, .ref (w.1 0)), (1, .int (nI (m + 1))), (2, .int (nI k)), (3, .int (nI ee)), (4, .int (b2i lk)), (5, .int (nI i))]) h dX12_key_123 1 rfl rfl (by decide) (by decide) rfl ?_
                          refine g_iload_n h dX12_key_126 3 rfl ?_
                          refine g_iconst h dX12_key_127 (by decide) ?_
                          refine g_iaddN h dX12_key_128  ?_
                          refine g_istore_n (L' := [(0, .ref (w.1 0)), (1, .int (nI (m + 1))), (2, .int (nI (ee + 1))), (3, .int (nI ee)), (4, .int (b2i lk)), (5, .int (nI i))]) h dX12_key_129 rfl (by decide) rfl ?_
                          refine g_goto h dX12_key_130 ?_
                          exact g_sub [0, 1, 2] rfl (ih14 (m + 1) (ee + 1) (by omega) (by rw [hp.2.1]; omega) (by intro q hq; exact if e9 : q = m then (by rw [e9, hq9]; exact c118) else hno q (by omega)) (by omega))
                        ·
                          have hlen : (txE x L e - txS x L e) = sl m := of_decide_eq_true (kl_len hlk c77)
                          have hs8 := (sc_i (i := 8) (j := k + i) (by decide) (by rw [sl_8]; omega)).1
                          have hx9 := (hcTX_σ (txS x L e + i) (by omega)).1
                          have hsc : sc 8 (k + i) = sc m i := by rw [hk]; exact (hp.2.2.2.2 i (by omega)).1
                          refine g_ldcS (i := 8) h dX12_key_80 (by decide) rfl rfl ?_
                          refine g_iload_n h dX12_key_82 2 rfl ?_
                          refine g_iload h dX12_key_83 5 rfl ?_
                          refine g_iaddN h dX12_key_85  ?_
                          refine g_cSpi (rest := []) h (j_charAt hW 8 (k + i) (by first | decide | omega | fail) (by rw [sl_8]; omega)) lJ0_charAt_5068e mX12_219 (Nat.lt_of_lt_of_le (by decide) (Nat.le_refl _)) (by decide) (by first | decide | omega) rfl rfl rfl rfl dX12_key_86 ?_
                          refine g_aload_n h dX12_key_89 0 rfl ?_
                          refine g_aload_n h dX12_key_90 0 rfl ?_
                          refine g_geti h dX12_key_91 gX12_193 sc_0 rfl ?_
                          refine g_top (y := (nI (txS x L e))) (by first | exact ht5006_σ | assumption) ?_
                          refine g_iload h dX12_key_94 5 rfl ?_
                          refine g_iaddN h dX12_key_96  ?_
                          refine g_cvpi (rest := [.int (nI (sc 8 (k + i)))]) h (r_byteAt hW (txS x L e + i) L x (by first | omega | assumption | fail) (by omega) (by first | exact ht5004_σ | assumption | fail) (by first | exact hcTX_σ | assumption | fail)) lX12_byteAt mX12_190 (Nat.lt_of_lt_of_le (by decide) (Nat.le_refl _)) (by decide) sc_0 rfl rfl rfl rfl dX12_key_97 ?_
                          refine g_top (y := (nI (x (txS x L e + i)))) (ba_yes (by omega)) ?_
                          refine g_icmpN_ne h dX12_key_100 (by omega) (by omega) (fun c100 => ?_) (fun c100 => ?_)
                          ·
                            refine g_iconst h dX12_key_107 (by decide) ?_
                            refine g_istore (L' := [(0, .ref (w.1 0)), (1, .int (nI m)), (2, .int (nI k)), (3, .int (nI ee)), (4, .int (nI 0)), (5, .int (nI i))]) h dX12_key_108 rfl (by decide) rfl ?_
                            refine g_iincN (b := 1) (L' := [(0, .ref (w.1 0)), (1, .int (nI m)), (2, .int (nI k)), (3, .int (nI ee)), (4, .int (nI 0)), (5, .int (nI (i + 1)))]) h dX12_key_110 5 rfl rfl (by decide) (by decide) rfl ?_
                            refine g_goto h dX12_key_113 ?_
                            exact ih67 false (i + 1) (by omega) (by first | exact kl_y hlk c77 (nd_f (by rw [← hsc]; exact c100)) | exact kl_y hlk c77 (nd_f (by rw [← hsc]; exact c100.symm)) | exact kl_n (nd_t (by rw [← hsc]; exact c100)) | exact kl_n (nd_t (by rw [← hsc]; exact Ne.symm c100)) | fail | fail) (by omega)
                          ·
                            refine g_iconst h dX12_key_103 (by decide) ?_
                            refine g_goto h dX12_key_104 ?_
                            refine g_istore (L' := [(0, .ref (w.1 0)), (1, .int (nI m)), (2, .int (nI k)), (3, .int (nI ee)), (4, .int (nI 1)), (5, .int (nI i))]) h dX12_key_108 rfl (by decide) rfl ?_
                            refine g_iincN (b := 1) (L' := [(0, .ref (w.1 0)), (1, .int (nI m)), (2, .int (nI k)), (3, .int (nI ee)), (4, .int (nI 1)), (5, .int (nI (i + 1)))]) h dX12_key_110 5 rfl rfl (by decide) (by decide) rfl ?_
                            refine g_goto h dX12_key_113 ?_
                            exact ih67 true (i + 1) (by omega) (by first | exact kl_y hlk c77 (nd_f (by rw [← hsc]; exact c100)) | exact kl_y hlk c77 (nd_f (by rw [← hsc]; exact c100.symm)) | exact kl_n (nd_t (by rw [← hsc]; exact c100)) | exact kl_n (nd_t (by rw [← hsc]; exact Ne.symm c100)) | fail | fail) (by omega)
                  exact lp67 (_) false 0 (by omega) (by first | (rw [decide_eq_false (by omega)]; rfl) | (rw [decide_eq_true (by omega)]; rfl) | fail | fail) (Nat.lt_succ_self _)
                ·
                  refine g_iconst h dX12_key_57 (by decide) ?_
                  refine g_goto h dX12_key_58 ?_
                  refine g_istore (L' := [(0, .ref (w.1 0)), (1, .int (nI m)), (2, .int (nI k)), (3, .int (nI ee)), (4, .int (nI 1))]) h dX12_key_62 rfl (by decide) rfl ?_
                  refine g_iconst h dX12_key_64 (by decide) ?_
                  refine g_istore (L' := [(0, .ref (w.1 0)), (1, .int (nI m)), (2, .int (nI k)), (3, .int (nI ee)), (4, .int (nI 1)), (5, .int (nI 0))]) h dX12_key_65 rfl (by decide) rfl ?_
                  have lp67 : ∀ (k9 : Nat) (lk : Bool) (i : Nat), (i ≤ ee - k) → (lk = (decide ((txE x L e - txS x L e) = sl m) && !anyB (fun j => !decide (x (txS x L e + j) = sc m j)) i)) → ee - k - i < k9 → G X w 6 67 [(0, .ref (w.1 0)), (1, .int (nI m)), (2, .int (nI k)), (3, .int (nI ee)), (4, .int (b2i lk)), (5, .int (nI i))] [] σ := by
                    intro k9
                    induction k9 with
                    | zero => intro lk i hi hlk hm9; exact absurd hm9 (Nat.not_lt_zero _)
                    | succ k9 ih67 =>
                      intro lk i hi hlk hm67
                      refine g_iload h dX12_key_67 5 rfl ?_
                      refine g_iload_n h dX12_key_69 3 rfl ?_
                      refine g_iload_n h dX12_key_70 2 rfl ?_
                      refine g_isubN h dX12_key_71 (by omega) ?_
                      refine g_icmpN_ge h dX12_key_72 (by omega) (by omega) (fun c72 => ?_) (fun c72 => ?_)
                      ·
                        have hq9 : eqW x (txS x L e) (txE x L e - txS x L e) m = lk := by first | exact kl_e2 hlk c77 (by omega) | exact kl_e1 hlk (by omega)
                        refine g_iload h dX12_key_116 4 rfl ?_
                        refine g_ifB_eq h dX12_key_118 (fun c118 => ?_) (fun c118 => ?_)
                        ·
                          refine g_iincN (b := 1) (L' := [(0, .ref (w.1 0)), (1, .int (nI (m + 1))), (2, .int (nI k)), (3, .int (nI ee)), (4, .int (b2i lk)), (5, .int (nI i))]) h dX12_key_123 1 rfl rfl (by decide) (by decide) rfl ?_
                          refine g_iload_n h dX12_key_126 3 rfl ?_
                          refine g_iconst h dX12_key_127 (by decide) ?_
                          refine g_iaddN h dX12_key_128  ?_
                          refine g_istore_n (L' := [(0, .ref (w.1 0)), (1, .int (nI (m + 1))), (2, .int (nI (ee + 1))), (3, .int (nI ee)), (4, .int (b2i lk)), (5, .int (nI i))]) h dX12_key_129 rfl (by decide) rfl ?_
                          refine g_goto h dX12_key_130 ?_
                          exact g_sub [0, 1, 2] rfl (ih14 (m + 1) (ee + 1) (by omega) (by rw [hp.2.1]; omega) (by intro q hq; exact if e9 : q = m then (by rw [e9, hq9]; exact c118) else hno q (by omega)) (by omega))
                        ·
                          have hW : txW x L e = some m := fs_here hno (by rw [hq9]; exact c118) 8 hm8
                          refine g_iload_n h dX12_key_121 1 rfl ?_
                          exact g_iret h hQ dX12_key_122 (congrArg (fun z => some (Value.int z)) (show (oI (kyO x L e)) = (nI m) by first | (rw [show kyO x L e = none from if_neg (fun z => c5 (kr_i.2.2.1.mpr z))]; rfl) | (rw [show kyO x L e = txW x L e from if_pos (kr_i.2.2.1.mp c5), hW]; rfl) | fail)) rfl
                      ·
                        refine g_iload h dX12_key_75 4 rfl ?_
                        refine g_ifB_eq h dX12_key_77 (fun c77 => ?_) (fun c77 => ?_)
                        ·
                          have hq9 : eqW x (txS x L e) (txE x L e - txS x L e) m = lk := by first | exact kl_e2 hlk c77 (by omega) | exact kl_e1 hlk (by omega)
                          refine g_iload h dX12_key_116 4 rfl ?_
                          refine g_ifB_eq h dX12_key_118 (fun c118 => ?_) (fun c118 => absurd (c77.symm.trans c118) (by decide))
                          refine g_iincN (b := 1) (L' := [(0, .ref (w.1 0)), (1, .int (nI (m + 1))), (2, .int (nI k)), (3, .int (nI ee)), (4, .int (b2i lk)), (5, .int (nI i))]) h dX12_key_123 1 rfl rfl (by decide) (by decide) rfl ?_
                          refine g_iload_n h dX12_key_126 3 rfl ?_
                          refine g_iconst h dX12_key_127 (by decide) ?_
                          refine g_iaddN h dX12_key_128  ?_
                          refine g_istore_n (L' := [(0, .ref (w.1 0)), (1, .int (nI (m + 1))), (2, .int (nI (ee + 1))), (3, .int (nI ee)), (4, .int (b2i lk)), (5, .int (nI i))]) h dX12_key_129 rfl (by decide) rfl ?_
                          refine g_goto h dX12_key_130 ?_
                          exact g_sub [0, 1, 2] rfl (ih14 (m + 1) (ee + 1) (by omega) (by rw [hp.2.1]; omega) (by intro q hq; exact if e9 : q = m then (by rw [e9, hq9]; exact c118) else hno q (by omega)) (by omega))
                        ·
                          have hlen : (txE x L e - txS x L e) = sl m := of_decide_eq_true (kl_len hlk c77)
                          have hs8 := (sc_i (i := 8) (j := k + i) (by decide) (by rw [sl_8]; omega)).1
                          have hx9 := (hcTX_σ (txS x L e + i) (by omega)).1
                          have hsc : sc 8 (k + i) = sc m i := by rw [hk]; exact (hp.2.2.2.2 i (by omega)).1
                          refine g_ldcS (i := 8) h dX12_key_80 (by decide) rfl rfl ?_
                          refine g_iload_n h dX12_key_82 2 rfl ?_
                          refine g_iload h dX12_key_83 5 rfl ?_
                          refine g_iaddN h dX12_key_85  ?_
                          refine g_cSpi (rest := []) h (j_charAt hW 8 (k + i) (by first | decide | omega | fail) (by rw [sl_8]; omega)) lJ0_charAt_5068e mX12_219 (Nat.lt_of_lt_of_le (by decide) (Nat.le_refl _)) (by decide) (by first | decide | omega) rfl rfl rfl rfl dX12_key_86 ?_
                          refine g_aload_n h dX12_key_89 0 rfl ?_
                          refine g_aload_n h dX12_key_90 0 rfl ?_
                          refine g_geti h dX12_key_91 gX12_193 sc_0 rfl ?_
                          refine g_top (y := (nI (txS x L e))) (by first | exact ht5006_σ | assumption) ?_
                          refine g_iload h dX12_key_94 5 rfl ?_
                          refine g_iaddN h dX12_key_96  ?_
                          refine g_cvpi (rest := [.int (nI (sc 8 (k + i)))]) h (r_byteAt hW (txS x L e + i) L x (by first | omega | assumption | fail) (by omega) (by first | exact ht5004_σ | assumption | fail) (by first | exact hcTX_σ | assumption | fail)) lX12_byteAt mX12_190 (Nat.lt_of_lt_of_le (by decide) (Nat.le_refl _)) (by decide) sc_0 rfl rfl rfl rfl dX12_key_97 ?_
                          refine g_top (y := (nI (x (txS x L e + i)))) (ba_yes (by omega)) ?_
                          refine g_icmpN_ne h dX12_key_100 (by omega) (by omega) (fun c100 => ?_) (fun c100 => ?_)
                          ·
                            refine g_iconst h dX12_key_107 (by decide) ?_
                            refine g_istore (L' := [(0, .ref (w.1 0)), (1, .int (nI m)), (2, .int (nI k)), (3, .int (nI ee)), (4, .int (nI 0)), (5, .int (nI i))]) h dX12_key_108 rfl (by decide) rfl ?_
                            refine g_iincN (b := 1) (L' := [(0, .ref (w.1 0)), (1, .int (nI m)), (2, .int (nI k)), (3, .int (nI ee)), (4, .int (nI 0)), (5, .int (nI (i + 1)))]) h dX12_key_110 5 rfl rfl (by decide) (by decide) rfl ?_
                            refine g_goto h dX12_key_113 ?_
                            exact ih67 false (i + 1) (by omega) (by first | exact kl_y hlk c77 (nd_f (by rw [← hsc]; exact c100)) | exact kl_y hlk c77 (nd_f (by rw [← hsc]; exact c100.symm)) | exact kl_n (nd_t (by rw [← hsc]; exact c100)) | exact kl_n (nd_t (by rw [← hsc]; exact Ne.symm c100)) | fail | fail) (by omega)
                          ·
                            refine g_iconst h dX12_key_103 (by decide) ?_
                            refine g_goto h dX12_key_104 ?_
                            refine g_istore (L' := [(0, .ref (w.1 0)), (1, .int (nI m)), (2, .int (nI k)), (3, .int (nI ee)), (4, .int (nI 1)), (5, .int (nI i))]) h dX12_key_108 rfl (by decide) rfl ?_
                            refine g_iincN (b := 1) (L' := [(0, .ref (w.1 0)), (1, .int (nI m)), (2, .int (nI k)), (3, .int (nI ee)), (4, .int (nI 1)), (5, .int (nI (i + 1)))]) h dX12_key_110 5 rfl rfl (by decide) (by decide) rfl ?_
                            refine g_goto h dX12_key_113 ?_
                            exact ih67 true (i + 1) (by omega) (by first | exact kl_y hlk c77 (nd_f (by rw [← hsc]; exact c100)) | exact kl_y hlk c77 (nd_f (by rw [← hsc]; exact c100.symm)) | exact kl_n (nd_t (by rw [← hsc]; exact c100)) | exact kl_n (nd_t (by rw [← hsc]; exact Ne.symm c100)) | fail | fail) (by omega)
                  exact lp67 (_) true 0 (by omega) (by first | (rw [decide_eq_false (by omega)]; rfl) | (rw [decide_eq_true (by omega)]; rfl) | fail | fail) (Nat.lt_succ_self _)
              ·
                have hne : ee ≠ k + sl m := fun q => c33 (by rw [q, hk]; exact hp.2.2.2.1)
                refine g_iincN (b := 1) (L' := [(0, .ref (w.1 0)), (1, .int (nI m)), (2, .int (nI k)), (3, .int (nI (ee + 1)))]) h dX12_key_36 3 rfl rfl (by decide) (by decide) rfl ?_
                refine g_goto h dX12_key_39 ?_
                exact ih25 (ee + 1) (by omega) (by omega) (by omega)
          exact lp25 (_) k (by omega) (by omega) (Nat.lt_succ_self _)
    exact lp14 (_) 0 1 (by omega) (by rfl) (by intro q hq; omega) (Nat.lt_succ_self _)
  ·
    refine g_iconstv h dX12_key_8 (v := (-1)) (by decide) ?_
    exact g_iret h hQ dX12_key_9 (congrArg (fun z => some (Value.int z)) (show (oI (kyO x L e)) = (-1) by first | (rw [show kyO x L e = none from if_neg (fun z => c5 (kr_i.2.2.1.mpr z))]; rfl) | (rw [show kyO x L e = txW x L e from if_pos (kr_i.2.2.1.mp c5), hW]; rfl) | fail)) rfl

set_option maxRecDepth 100000 in
set_option maxHeartbeats 4000000 in
theorem r_fails {l : Launch} {w : Wd} (hW : Wi w) {σ : Mem} (q e L : Nat) (x : Nat → Nat) (hq : q < 10) (ht5005_σ : σ 5005 = (nI (kr (txK x L e)))) (ht5006_σ : σ 5006 = (nI (txS x L e))) (ht5009_σ : σ 5009 = (nI 0)) : MC l w qX12_fails 0 [.ref (w.1 0), .int (nI q)] σ (some (.int (b2i false))) (fun σ' => (σ' 5009 = (nI (tff (txK x L e) q))) ∧ (σ' 4004 = (nI (txS x L e))) ∧ (∀ a, (a ≠ 5009 ∧ a ≠ 4004) → σ' a = σ a)) := by
  refine MC.of hW (by decide +kernel) (Nat.le_of_ble_eq_true rfl) (fun X h hQ hnm => ?_)
  have h : Fx X w cX12_fails 2 RX12 0 := h
  have hQ : Qx X w (some .boolean) (some (.int (b2i false))) (fun σ' => (σ' 5009 = (nI (tff (txK x L e) q))) ∧ (σ' 4004 = (nI (txS x L e))) ∧ (∀ a, (a ≠ 5009 ∧ a ≠ 4004) → σ' a = σ a)) := hQ
  have h5 := (kr_i (x := x) (L := L) (e := e)).2.2.2.2.2
  have hcFR_σ : ∀ a, (a ≠ 5009 ∧ a ≠ 4004) → σ a = σ a := fun _ _ => rfl
  show G X w 2 0 [(0, .ref (w.1 0)), (1, .int (nI q))] [] σ
  refine g_aload_n h dX12_fails_0 0 rfl ?_
  refine g_geti h dX12_fails_1 gX12_223 sc_0 rfl ?_
  refine g_top (y := (nI 0)) (by first | exact ht5009_σ | assumption) ?_
  refine g_ifN_ne h dX12_fails_4 (by decide) (fun c4 => absurd c4 (by decide)) (fun c4 => ?_)
  refine g_aload_n h dX12_fails_7 0 rfl ?_
  refine g_aload_n h dX12_fails_8 0 rfl ?_
  refine g_geti h dX12_fails_9 gX12_196 sc_0 rfl ?_
  refine g_top (y := (nI (kr (txK x L e)))) (by first | exact ht5005_σ | assumption) ?_
  refine g_iconst h dX12_fails_12 (by decide) ?_
  refine g_icmpN_ne h dX12_fails_13 (by omega) (by omega) (fun c13 => ?_) (fun c13 => ?_)
  ·
    refine g_iload_n h dX12_fails_20 1 rfl ?_
    refine g_puti h dX12_fails_21 pX12_223 sc_0 rfl ?_
    refine g_nm (fun σ_1 eσ_1 => ?_)
    have eσ_1 : σ_1 = upd σ 5009 (nI q) := eσ_1
    have ht5005_σ_1 : σ_1 5005 = (nI (kr (txK x L e))) := by rw [eσ_1, upd_ne (by first | omega | (simp only [vb] at *; omega))]; first | exact ht5005_σ | assumption
    have ht5006_σ_1 : σ_1 5006 = (nI (txS x L e)) := by rw [eσ_1, upd_ne (by first | omega | (simp only [vb] at *; omega))]; first | exact ht5006_σ | assumption
    have ht5009_σ_1 : σ_1 5009 = (nI q) := by rw [eσ_1]; exact upd_eq
    have hcFR_σ_1 : ∀ a, (a ≠ 5009 ∧ a ≠ 4004) → σ_1 a = σ a := by intro a ha; exact Eq.trans (b := σ a) (by rw [eσ_1, upd_ne (by first | omega | (simp only [vb] at *; omega))]) (hcFR_σ a ha)
    refine g_aload_n h dX12_fails_24 0 rfl ?_
    refine g_aload_n h dX12_fails_25 0 rfl ?_
    refine g_geti h dX12_fails_26 gX12_193 sc_0 rfl ?_
    refine g_top (y := (nI (txS x L e))) (by first | exact ht5006_σ_1 | assumption) ?_
    refine g_puti h dX12_fails_29 pX12_35 sc_0 rfl ?_
    refine g_nm (fun σ_2 eσ_2 => ?_)
    have eσ_2 : σ_2 = upd σ_1 4004 (nI (txS x L e)) := eσ_2
    have ht5005_σ_2 : σ_2 5005 = (nI (kr (txK x L e))) := by rw [eσ_2, upd_ne (by first | omega | (simp only [vb] at *; omega))]; first | exact ht5005_σ_1 | assumption
    have ht5006_σ_2 : σ_2 5006 = (nI (txS x L e)) := by rw [eσ_2, upd_ne (by first | omega | (simp only [vb] at *; omega))]; first | exact ht5006_σ_1 | assumption
    have ht5009_σ_2 : σ_2 5009 = (nI q) := by rw [eσ_2, upd_ne (by first | omega | (simp only [vb] at *; omega))]; first | exact ht5009_σ_1 | assumption
    have ht4004_σ_2 : σ_2 4004 = (nI (txS x L e)) := by rw [eσ_2]; exact upd_eq
    have hcFR_σ_2 : ∀ a, (a ≠ 5009 ∧ a ≠ 4004) → σ_2 a = σ a := by intro a ha; exact Eq.trans (b := σ_1 a) (by rw [eσ_2, upd_ne (by first | omega | (simp only [vb] at *; omega))]) (hcFR_σ_1 a ha)
    refine g_iconst h dX12_fails_32 (by decide) ?_
    exact g_zret h hQ dX12_fails_33 (show narrow .boolean (.int (b2i false)) = .int (b2i false) from narrow_b2i _) rfl (by exact ⟨(by first | (rw [tff_y c13]; exact ht5009_σ_2) | (rw [tff_n c13]; exact ht5009_σ_2) | fail), (by first | exact ht4004_σ_2 | assumption | fail), (by exact hcFR_σ_2)⟩)
  ·
    refine g_iconst h dX12_fails_16 (by decide) ?_
    refine g_goto h dX12_fails_17 ?_
    refine g_puti h dX12_fails_21 pX12_223 sc_0 rfl ?_
    refine g_nm (fun σ_3 eσ_3 => ?_)
    have eσ_3 : σ_3 = upd σ 5009 (nI 1) := eσ_3
    have ht5005_σ_3 : σ_3 5005 = (nI (kr (txK x L e))) := by rw [eσ_3, upd_ne (by first | omega | (simp only [vb] at *; omega))]; first | exact ht5005_σ | assumption
    have ht5006_σ_3 : σ_3 5006 = (nI (txS x L e)) := by rw [eσ_3, upd_ne (by first | omega | (simp only [vb] at *; omega))]; first | exact ht5006_σ | assumption
    have ht5009_σ_3 : σ_3 5009 = (nI 1) := by rw [eσ_3]; exact upd_eq
    have hcFR_σ_3 : ∀ a, (a ≠ 5009 ∧ a ≠ 4004) → σ_3 a = σ a := by intro a ha; exact Eq.trans (b := σ a) (by rw [eσ_3, upd_ne (by first | omega | (simp only [vb] at *; omega))]) (hcFR_σ a ha)
    refine g_aload_n h dX12_fails_24 0 rfl ?_
    refine g_aload_n h dX12_fails_25 0 rfl ?_
    refine g_geti h dX12_fails_26 gX12_193 sc_0 rfl ?_
    refine g_top (y := (nI (txS x L e))) (by first | exact ht5006_σ_3 | assumption) ?_
    refine g_puti h dX12_fails_29 pX12_35 sc_0 rfl ?_
    refine g_nm (fun σ_4 eσ_4 => ?_)
    have eσ_4 : σ_4 = upd σ_3 4004 (nI (txS x L e)) := eσ_4
    have ht5005_σ_4 : σ_4 5005 = (nI (kr (txK x L e))) := by rw [eσ_4, upd_ne (by first | omega | (simp only [vb] at *; omega))]; first | exact ht5005_σ_3 | assumption
    have ht5006_σ_4 : σ_4 5006 = (nI (txS x L e)) := by rw [eσ_4, upd_ne (by first | omega | (simp only [vb] at *; omega))]; first | exact ht5006_σ_3 | assumption
    have ht5009_σ_4 : σ_4 5009 = (nI 1) := by rw [eσ_4, upd_ne (by first | omega | (simp only [vb] at *; omega))]; first | exact ht5009_σ_3 | assumption
    have ht4004_σ_4 : σ_4 4004 = (nI (txS x L e)) := by rw [eσ_4]; exact upd_eq
    have hcFR_σ_4 : ∀ a, (a ≠ 5009 ∧ a ≠ 4004) → σ_4 a = σ a := by intro a ha; exact Eq.trans (b := σ_3 a) (by rw [eσ_4, upd_ne (by first | omega | (simp only [vb] at *; omega))]) (hcFR_σ_3 a ha)
    refine g_iconst h dX12_fails_32 (by decide) ?_
    exact g_zret h hQ dX12_fails_33 (show narrow .boolean (.int (b2i false)) = .int (b2i false) from narrow_b2i _) rfl (by exact ⟨(by first | (rw [tff_y c13]; exact ht5009_σ_4) | (rw [tff_n c13]; exact ht5009_σ_4) | fail), (by first | exact ht4004_σ_4 | assumption | fail), (by exact hcFR_σ_4)⟩)

set_option maxRecDepth 100000 in
set_option maxHeartbeats 4000000 in
theorem r_takes {l : Launch} {w : Wd} (hW : Wi w) {σ : Mem} (e L : Nat) (x : Nat → Nat) (he : e ≤ L) (hL : L ≤ 400) (ht5004_σ : σ 5004 = (nI L)) (ht5007_σ : σ 5007 = (nI e)) (hcTX_σ : TX 5600 σ L x) : MC l w qX12_takes 2 [.ref (w.1 0)] σ (some (.int (b2i true))) (fun σ' => (σ' 5004 = (nI L)) ∧ (σ' 5005 = (nI (kr (txK x L e)))) ∧ (σ' 5006 = (nI (txS x L e))) ∧ (σ' 5007 = (nI (txE x L e))) ∧ (TX 5600 σ' L x) ∧ (VL σ' x L e) ∧ (∀ a, (a < 5005 ∨ 5008 < a) → σ' a = σ a)) := by
  refine MC.of hW (by decide +kernel) (Nat.le_of_ble_eq_true rfl) (fun X h hQ hnm => ?_)
  have h : Fx X w cX12_takes 1 RX12 2 := h
  have hQ : Qx X w (some .boolean) (some (.int (b2i true))) (fun σ' => (σ' 5004 = (nI L)) ∧ (σ' 5005 = (nI (kr (txK x L e)))) ∧ (σ' 5006 = (nI (txS x L e))) ∧ (σ' 5007 = (nI (txE x L e))) ∧ (TX 5600 σ' L x) ∧ (VL σ' x L e) ∧ (∀ a, (a < 5005 ∨ 5008 < a) → σ' a = σ a)) := hQ
  have hcFR_σ : ∀ a, (a < 5005 ∨ 5008 < a) → σ a = σ a := fun _ _ => rfl
  show G X w 1 0 [(0, .ref (w.1 0))] [] σ
  refine g_aload_n h dX12_takes_0 0 rfl ?_
  refine g_cvv (rest := []) h (r_ahead hW e L x (by first | omega | assumption | fail) (by first | omega | assumption | fail) (by first | exact ht5004_σ | assumption | fail) (by first | exact ht5007_σ | assumption | fail) (by first | exact hcTX_σ | assumption | fail)) lX12_ahead mX12_229 (Nat.lt_of_lt_of_le (by decide) (Nat.le_refl _)) (by decide) sc_0 rfl rfl rfl rfl dX12_takes_1 (fun σ_1 eσ_1 => ?_)
  obtain ⟨eσ_1_a, eσ_1_b, eσ_1_c, eσ_1_d, eσ_1_e, eσ_1_f, eσ_1_g⟩ := eσ_1
  have eσ_1_a : σ_1 5004 = (nI L) := eσ_1_a
  have eσ_1_b : σ_1 5005 = (nI (kr (txK x L e))) := eσ_1_b
  have eσ_1_c : σ_1 5006 = (nI (txS x L e)) := eσ_1_c
  have eσ_1_d : σ_1 5007 = (nI (txE x L e)) := eσ_1_d
  have eσ_1_e : TX 5600 σ_1 L x := eσ_1_e
  have eσ_1_f : VL σ_1 x L e := eσ_1_f
  have eσ_1_g : ∀ a, (a < 5005 ∨ 5008 < a) → σ_1 a = σ a := eσ_1_g
  have ht5004_σ_1 : σ_1 5004 = (nI L) := eσ_1_a
  have ht5005_σ_1 : σ_1 5005 = (nI (kr (txK x L e))) := eσ_1_b
  have ht5006_σ_1 : σ_1 5006 = (nI (txS x L e)) := eσ_1_c
  have ht5007_σ_1 : σ_1 5007 = (nI (txE x L e)) := eσ_1_d
  have hcTX_σ_1 : TX 5600 σ_1 L x := eσ_1_e
  have hcFR_σ_1 : ∀ a, (a < 5005 ∨ 5008 < a) → σ_1 a = σ a := by intro a ha; exact Eq.trans (b := σ a) (eσ_1_g a (by first | omega | (simp only [vb] at *; omega))) (hcFR_σ a ha)
  have hcVL_σ_1 : VL σ_1 x L e := eσ_1_f
  refine g_iconst h dX12_takes_4 (by decide) ?_
  exact g_zret h hQ dX12_takes_5 (show narrow .boolean (.int (b2i true)) = .int (b2i true) from narrow_b2i _) rfl (by exact ⟨(by first | exact ht5004_σ_1 | assumption | fail), (by first | exact ht5005_σ_1 | assumption | fail), (by first | exact ht5006_σ_1 | assumption | fail), (by first | exact ht5007_σ_1 | assumption | fail), (by first | exact hcTX_σ_1 | assumption | fail), (by first | exact hcVL_σ_1 | assumption | fail), (by exact hcFR_σ_1)⟩)
