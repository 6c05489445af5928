/-! the class's choices -/
theorem nI_sub_lt {a b : Nat} (ha : a < 1000) (hb : b < 1000) : (nI a - nI b < 0) ↔ a < b := by
  have e : (nI a - nI b).toInt = (a : Int) - b := by
    rw [Int32.toInt_sub, nI_toInt (by omega), nI_toInt (by omega)]
    apply Int.bmod_eq_of_le <;> omega
  rw [Int32.lt_iff_toInt_lt, e]
  have h0 : (0 : Int32).toInt = 0 := by decide
  omega
theorem nI_sub_eq {a b : Nat} (ha : a < 1000) (hb : b < 1000) : (nI a - nI b = 0) ↔ a = b := by
  constructor
  · intro h
    have h2 := congrArg Int32.toInt h
    rw [Int32.toInt_sub, nI_toInt (by omega), nI_toInt (by omega)] at h2
    have e : ((a : Int) - b).bmod (2 ^ 32) = (a : Int) - b := by apply Int.bmod_eq_of_le <;> omega
    rw [e] at h2
    have h0 : (0 : Int32).toInt = 0 := by decide
    omega
  · intro h
    subst h
    exact Int32.sub_self _
theorem tr_at {a b : Nat} (ha : a < 8) (hb : b < 8) : tr (8 * a + b) = 8 * b + a := by
  unfold tr
  omega
def cms (μ : Nat → Int32) (a b : Nat) : Bool := tb (μ 1) a && tb (μ 1) b && tb (μ (24 + a)) b && decide (nA μ (208 + (8 * b + a)) = 0)
def prv (q : Nat) (h : Bool) : Nat := if h = true then q + (999 - q + 1) / 2 else q / 2
def isU (μ : Nat → Int32) (q : Nat) (was : Bool) : Bool := decide (nA μ 5 ≤ q) || (decide (nA μ 6 ≤ q) && was)
theorem sb_wil {μ : Nat → Int32} {i : Nat} (h : MI μ) : sb 8 (wil μ i) := sb_mono (mi_8 h) (sb_mkS (by have := mi_8 h; omega))
theorem sb_of {x y : Int32} (hy : sb 8 y) (h : ∀ k, tb x k = true → tb y k = true) : sb 8 x := fun k hk => by
  cases q : tb x k
  · rfl
  · have := h k q
    rw [hy k hk] at this
    cases this
theorem tb_dS {μ : Nat → Int32} {i wl : Nat} : ∀ {n : Nat} {s : Int32} (k : Nat), tb (dS μ i wl n s) k = true → tb s k = true
  | 0, _, _, h => h
  | n + 1, s, k, h => by
    simp only [dS] at h
    have := tb_dS k h
    split at this
    · rw [tb_and, Bool.and_eq_true] at this
      exact this.1
    · exact this
theorem tb_dW {μ : Nat → Int32} {i : Nat} {s : Int32} : ∀ {n : Nat} (k : Nat), tb (dW μ i s n) k = true → tb s k = true
  | 0, _, h => h
  | n + 1, k, h => tb_dW k (tb_dS k h)
theorem sb_chos {μ : Nat → Int32} {i : Nat} (h : MI μ) : sb 8 (chos μ i) := sb_of (sb_wil (i := i) h) fun k hk => tb_pkS (mi_8 h) k (tb_dW k hk)
def few (a b : Nat) : Bool := decide (pc (nI a) < pc (nI b)) || (decide (pc (nI a) = pc (nI b)) && decide (a < b))
def srv (μ : Nat → Int32) (i n : Nat) : Bool := decide (nI n &&& nots (wil μ i) = 0) && decide (bhd μ i &&& nots (kno μ i (nI n)) = 0)
def lsC (μ : Nat → Int32) (i wn : Nat) : Nat → Nat
  | 0 => wn
  | n + 1 => if srv μ i n && few n (lsC μ i wn n) then n else lsC μ i wn n
theorem lsO_lt {μ : Nat → Int32} {i : Nat} : ∀ {n b : Nat}, lsO μ i n = some b → b < n
  | 0, b, h => by simp [lsO] at h
  | n + 1, b, h => by
    simp only [lsO] at h
    have keep : ∀ y, lsO μ i n = some y → y < n + 1 := fun y hy => by have := lsO_lt hy; omega
    split at h
    · split at h
      · cases h; omega
      · split at h
        · cases h; omega
        · rename_i hb _; exact keep _ (by rw [hb]; exact h)
    · exact keep _ h
theorem lsO_min {μ : Nat → Int32} {i : Nat} : ∀ {n x : Nat}, x < n → srv μ i x = true → ∃ b, lsO μ i n = some b ∧ (pc (nI b) < pc (nI x) ∨ (pc (nI b) = pc (nI x) ∧ b ≤ x))
  | 0, x, h, _ => absurd h (Nat.not_lt_zero _)
  | n + 1, x, h, hs => by
    unfold srv at hs
    by_cases e : x = n
    · subst e
      simp only [lsO, hs, if_true]
      cases q : lsO μ i x with
      | none => exact ⟨x, rfl, Or.inr ⟨rfl, Nat.le_refl _⟩⟩
      | some b =>
        have := lsO_lt q
        by_cases c : pc (nI x) < pc (nI b)
        · exact ⟨x, by simp [c], Or.inr ⟨rfl, Nat.le_refl _⟩⟩
        · exact ⟨b, by simp [c], by omega⟩
    · obtain ⟨b, hb, hm⟩ := lsO_min (n := n) (x := x) (by omega) (by unfold srv; exact hs)
      have hbn := lsO_lt hb
      simp only [lsO, hb]
      split
      · by_cases c : pc (nI n) < pc (nI b)
        · exact ⟨n, by simp [c], by omega⟩
        · exact ⟨b, by simp [c], hm⟩
      · exact ⟨b, rfl, hm⟩
theorem lsC_eq {μ : Nat → Int32} {i wn : Nat} : ∀ n, lsC μ i wn n = (match lsO μ i n with | none => wn | some b => if few b wn = true then b else wn)
  | 0 => rfl
  | n + 1 => by
    have ih := lsC_eq (μ := μ) (i := i) (wn := wn) n
    simp only [lsC, lsO]
    by_cases hs : srv μ i n = true
    · have hs' := hs
      unfold srv at hs'
      rw [hs', hs]
      simp only [Bool.true_and, if_true]
      rw [ih]
      cases q : lsO μ i n with
      | none => rfl
      | some b =>
        have hb := lsO_lt q
        simp only
        unfold few
        by_cases c1 : pc (nI n) < pc (nI b)
        · rw [if_pos c1]
          simp
          repeat' split
          all_goals (first | rfl | omega | (intros; omega) | (intros; rfl))
        · rw [if_neg c1]
          simp
          repeat' split
          all_goals (first | rfl | omega | (intros; omega) | (intros; rfl))
    · have hs' : srv μ i n = false := by simpa using hs
      have hs2 := hs'
      unfold srv at hs2
      rw [hs2, hs']
      simp only [Bool.false_and, Bool.false_eq_true, if_false]
      exact ih
theorem srv_wil {μ : Nat → Int32} {i wn : Nat} (e : wil μ i = nI wn) : srv μ i wn = true := by
  unfold srv
  rw [← e]
  simp
  refine ⟨s_ext fun k hk => ?_, s_ext fun k hk => ?_⟩
  · rw [tb_and, tb_nots hk, tb_0]
    cases tb (wil μ i) k <;> rfl
  · rw [tb_and, tb_nots hk, tb_0]
    unfold bhd
    rw [tb_and, tb_and]
    cases tb (kno μ i (wil μ i)) k <;> simp
theorem lsC_end {μ : Nat → Int32} {i wn : Nat} (e : wil μ i = nI wn) (hw : wn < 256) : lst μ i = nI (lsC μ i wn 256) := by
  obtain ⟨b, hb, hm⟩ := lsO_min (n := 256) hw (srv_wil e)
  rw [lsC_eq]
  unfold lst
  rw [hb]
  simp only [oI]
  unfold few
  by_cases c : b = wn
  · subst c
    simp
  · congr 1
    have : (decide (pc (nI b) < pc (nI wn)) || (decide (pc (nI b) = pc (nI wn)) && decide (b < wn))) = true := by
      simp
      omega
    rw [if_pos this]
def smC (μ : Nat → Int32) : Nat → Nat
  | 0 => 0
  | j + 1 => if tb (μ 1) j = true then smC μ j + pc (chos μ j) else smC μ j
theorem smC_le (μ : Nat → Int32) : ∀ n, smC μ n ≤ 8 * n
  | 0 => Nat.le_refl _
  | n + 1 => by
    have h1 := smC_le μ n
    have h2 := pc_le (chos μ n)
    simp only [smC]
    split <;> omega

set_option maxRecDepth 100000 in
set_option maxHeartbeats 4000000 in
theorem j_bcN {l : Launch} {w : Wd} (hW : Wi w) {σ : Mem} (n : Nat) (hn : n < 256) : MC l w qJ6_bitCount_0f7a4 0 [.int (nI n)] σ (some (.int (nI (pc (nI n))))) (fun σ' => σ' = σ) := by
  refine MC.of hW (by decide +kernel) (Nat.le_of_ble_eq_true rfl) (fun X h hQ hnm => ?_)
  have h : Fx X w cJ6_bitCount_0f7a4 1 RJ6 0 := h
  have hQ : Qx X w (some .int) (some (.int (nI (pc (nI n))))) (fun σ' => σ' = σ) := hQ
  show G X w 1 0 [(0, .int (nI n))] [] σ
  refine g_iload_n h dJ6_bitCount_0f7a4_0 0 rfl ?_
  refine g_iload_n h dJ6_bitCount_0f7a4_1 0 rfl ?_
  refine g_iconst h dJ6_bitCount_0f7a4_2 (by decide) ?_
  refine g_iushr h dJ6_bitCount_0f7a4_3  ?_
  refine g_ldcw h dJ6_bitCount_0f7a4_4 kJ6_265 ?_
  refine g_iand h dJ6_bitCount_0f7a4_7  ?_
  refine g_isub h dJ6_bitCount_0f7a4_8  ?_
  refine g_istore_n (L' := [(0, .int ((nI n) - ((((nI n).toUInt32 >>> ((nI 1).toUInt32 &&& Int32.toUInt32 31)).toInt32) &&& (nI 1431655765))))]) h dJ6_bitCount_0f7a4_9 rfl (by decide) rfl ?_
  refine g_iload_n h dJ6_bitCount_0f7a4_10 0 rfl ?_
  refine g_ldcw h dJ6_bitCount_0f7a4_11 kJ6_266 ?_
  refine g_iand h dJ6_bitCount_0f7a4_14  ?_
  refine g_iload_n h dJ6_bitCount_0f7a4_15 0 rfl ?_
  refine g_iconst h dJ6_bitCount_0f7a4_16 (by decide) ?_
  refine g_iushr h dJ6_bitCount_0f7a4_17  ?_
  refine g_ldcw h dJ6_bitCount_0f7a4_18 kJ6_266 ?_
  refine g_iand h dJ6_bitCount_0f7a4_21  ?_
  refine g_iadd h dJ6_bitCount_0f7a4_22  ?_
  refine g_istore_n (L' := [(0, .int ((((nI n) - ((((nI n).toUInt32 >>> ((nI 1).toUInt32 &&& Int32.toUInt32 31)).toInt32) &&& (nI 1431655765))) &&& (nI 858993459)) + (((((nI n) - ((((nI n).toUInt32 >>> ((nI 1).toUInt32 &&& Int32.toUInt32 31)).toInt32) &&& (nI 1431655765))).toUInt32 >>> ((nI 2).toUInt32 &&& Int32.toUInt32 31)).toInt32) &&& (nI 858993459))))]) h dJ6_bitCount_0f7a4_23 rfl (by decide) rfl ?_
  refine g_iload_n h dJ6_bitCount_0f7a4_24 0 rfl ?_
  refine g_iload_n h dJ6_bitCount_0f7a4_25 0 rfl ?_
  refine g_iconst h dJ6_bitCount_0f7a4_26 (by decide) ?_
  refine g_iushr h dJ6_bitCount_0f7a4_27  ?_
  refine g_iadd h dJ6_bitCount_0f7a4_28  ?_
  refine g_ldcw h dJ6_bitCount_0f7a4_29 kJ6_267 ?_
  refine g_iand h dJ6_bitCount_0f7a4_32  ?_
  refine g_istore_n (L' := [(0, .int ((((((nI n) - ((((nI n).toUInt32 >>> ((nI 1).toUInt32 &&& Int32.toUInt32 31)).toInt32) &&& (nI 1431655765))) &&& (nI 858993459)) + (((((nI n) - ((((nI n).toUInt32 >>> ((nI 1).toUInt32 &&& Int32.toUInt32 31)).toInt32) &&& (nI 1431655765))).toUInt32 >>> ((nI 2).toUInt32 &&& Int32.toUInt32 31)).toInt32) &&& (nI 858993459))) + ((((((nI n) - ((((nI n).toUInt32 >>> ((nI 1).toUInt32 &&& Int32.toUInt32 31)).toInt32) &&& (nI 1431655765))) &&& (nI 858993459)) + (((((nI n) - ((((nI n).toUInt32 >>> ((nI 1).toUInt32 &&& Int32.toUInt32 31)).toInt32) &&& (nI 1431655765))).toUInt32 >>> ((nI 2).toUInt32 &&& Int32.toUInt32 31)).toInt32) &&& (nI 858993459))).toUInt32 >>> ((nI 4).toUInt32 &&& Int32.toUInt32 31)).toInt32)) &&& (nI 252645135)))]) h dJ6_bitCount_0f7a4_33 rfl (by decide) rfl ?_
  refine g_iload_n h dJ6_bitCount_0f7a4_34 0 rfl ?_
  refine g_iload_n h dJ6_bitCount_0f7a4_35 0 rfl ?_
  refine g_bipush h dJ6_bitCount_0f7a4_36 (by decide) ?_
  refine g_iushr h dJ6_bitCount_0f7a4_38  ?_
  refine g_iadd h dJ6_bitCount_0f7a4_39  ?_
  refine g_istore_n (L' := [(0, .int (((((((nI n) - ((((nI n).toUInt32 >>> ((nI 1).toUInt32 &&& Int32.toUInt32 31)).toInt32) &&& (nI 1431655765))) &&& (nI 858993459)) + (((((nI n) - ((((nI n).toUInt32 >>> ((nI 1).toUInt32 &&& Int32.toUInt32 31)).toInt32) &&& (nI 1431655765))).toUInt32 >>> ((nI 2).toUInt32 &&& Int32.toUInt32 31)).toInt32) &&& (nI 858993459))) + ((((((nI n) - ((((nI n).toUInt32 >>> ((nI 1).toUInt32 &&& Int32.toUInt32 31)).toInt32) &&& (nI 1431655765))) &&& (nI 858993459)) + (((((nI n) - ((((nI n).toUInt32 >>> ((nI 1).toUInt32 &&& Int32.toUInt32 31)).toInt32) &&& (nI 1431655765))).toUInt32 >>> ((nI 2).toUInt32 &&& Int32.toUInt32 31)).toInt32) &&& (nI 858993459))).toUInt32 >>> ((nI 4).toUInt32 &&& Int32.toUInt32 31)).toInt32)) &&& (nI 252645135)) + ((((((((nI n) - ((((nI n).toUInt32 >>> ((nI 1).toUInt32 &&& Int32.toUInt32 31)).toInt32) &&& (nI 1431655765))) &&& (nI 858993459)) + (((((nI n) - ((((nI n).toUInt32 >>> ((nI 1).toUInt32 &&& Int32.toUInt32 31)).toInt32) &&& (nI 1431655765))).toUInt32 >>> ((nI 2).toUInt32 &&& Int32.toUInt32 31)).toInt32) &&& (nI 858993459))) + ((((((nI n) - ((((nI n).toUInt32 >>> ((nI 1).toUInt32 &&& Int32.toUInt32 31)).toInt32) &&& (nI 1431655765))) &&& (nI 858993459)) + (((((nI n) - ((((nI n).toUInt32 >>> ((nI 1).toUInt32 &&& Int32.toUInt32 31)).toInt32) &&& (nI 1431655765))).toUInt32 >>> ((nI 2).toUInt32 &&& Int32.toUInt32 31)).toInt32) &&& (nI 858993459))).toUInt32 >>> ((nI 4).toUInt32 &&& Int32.toUInt32 31)).toInt32)) &&& (nI 252645135)).toUInt32 >>> ((nI 8).toUInt32 &&& Int32.toUInt32 31)).toInt32)))]) h dJ6_bitCount_0f7a4_40 rfl (by decide) rfl ?_
  refine g_iload_n h dJ6_bitCount_0f7a4_41 0 rfl ?_
  refine g_iload_n h dJ6_bitCount_0f7a4_42 0 rfl ?_
  refine g_bipush h dJ6_bitCount_0f7a4_43 (by decide) ?_
  refine g_iushr h dJ6_bitCount_0f7a4_45  ?_
  refine g_iadd h dJ6_bitCount_0f7a4_46  ?_
  refine g_istore_n (L' := [(0, .int ((((((((nI n) - ((((nI n).toUInt32 >>> ((nI 1).toUInt32 &&& Int32.toUInt32 31)).toInt32) &&& (nI 1431655765))) &&& (nI 858993459)) + (((((nI n) - ((((nI n).toUInt32 >>> ((nI 1).toUInt32 &&& Int32.toUInt32 31)).toInt32) &&& (nI 1431655765))).toUInt32 >>> ((nI 2).toUInt32 &&& Int32.toUInt32 31)).toInt32) &&& (nI 858993459))) + ((((((nI n) - ((((nI n).toUInt32 >>> ((nI 1).toUInt32 &&& Int32.toUInt32 31)).toInt32) &&& (nI 1431655765))) &&& (nI 858993459)) + (((((nI n) - ((((nI n).toUInt32 >>> ((nI 1).toUInt32 &&& Int32.toUInt32 31)).toInt32) &&& (nI 1431655765))).toUInt32 >>> ((nI 2).toUInt32 &&& Int32.toUInt32 31)).toInt32) &&& (nI 858993459))).toUInt32 >>> ((nI 4).toUInt32 &&& Int32.toUInt32 31)).toInt32)) &&& (nI 252645135)) + ((((((((nI n) - ((((nI n).toUInt32 >>> ((nI 1).toUInt32 &&& Int32.toUInt32 31)).toInt32) &&& (nI 1431655765))) &&& (nI 858993459)) + (((((nI n) - ((((nI n).toUInt32 >>> ((nI 1).toUInt32 &&& Int32.toUInt32 31)).toInt32) &&& (nI 1431655765))).toUInt32 >>> ((nI 2).toUInt32 &&& Int32.toUInt32 31)).toInt32) &&& (nI 858993459))) + ((((((nI n) - ((((nI n).toUInt32 >>> ((nI 1).toUInt32 &&& Int32.toUInt32 31)).toInt32) &&& (nI 1431655765))) &&& (nI 858993459)) + (((((nI n) - ((((nI n).toUInt32 >>> ((nI 1).toUInt32 &&& Int32.toUInt32 31)).toInt32) &&& (nI 1431655765))).toUInt32 >>> ((nI 2).toUInt32 &&& Int32.toUInt32 31)).toInt32) &&& (nI 858993459))).toUInt32 >>> ((nI 4).toUInt32 &&& Int32.toUInt32 31)).toInt32)) &&& (nI 252645135)).toUInt32 >>> ((nI 8).toUInt32 &&& Int32.toUInt32 31)).toInt32)) + (((((((((nI n) - ((((nI n).toUInt32 >>> ((nI 1).toUInt32 &&& Int32.toUInt32 31)).toInt32) &&& (nI 1431655765))) &&& (nI 858993459)) + (((((nI n) - ((((nI n).toUInt32 >>> ((nI 1).toUInt32 &&& Int32.toUInt32 31)).toInt32) &&& (nI 1431655765))).toUInt32 >>> ((nI 2).toUInt32 &&& Int32.toUInt32 31)).toInt32) &&& (nI 858993459))) + ((((((nI n) - ((((nI n).toUInt32 >>> ((nI 1).toUInt32 &&& Int32.toUInt32 31)).toInt32) &&& (nI 1431655765))) &&& (nI 858993459)) + (((((nI n) - ((((nI n).toUInt32 >>> ((nI 1).toUInt32 &&& Int32.toUInt32 31)).toInt32) &&& (nI 1431655765))).toUInt32 >>> ((nI 2).toUInt32 &&& Int32.toUInt32 31)).toInt32) &&& (nI 858993459))).toUInt32 >>> ((nI 4).toUInt32 &&& Int32.toUInt32 31)).toInt32)) &&& (nI 252645135)) + ((((((((nI n) - ((((nI n).toUInt32 >>> ((nI 1).toUInt32 &&& Int32.toUInt32 31)).toInt32) &&& (nI 1431655765))) &&& (nI 858993459)) + (((((nI n) - ((((nI n).toUInt32 >>> ((nI 1).toUInt32 &&& Int32.toUInt32 31)).toInt32) &&& (nI 1431655765))).toUInt32 >>> ((nI 2).toUInt32 &&& Int32.toUInt32 31)).toInt32) &&& (nI 858993459))) + ((((((nI n) - ((((nI n).toUInt32 >>> ((nI 1).toUInt32 &&& Int32.toUInt32 31)).toInt32) &&& (nI 1431655765))) &&& (nI 858993459)) + (((((nI n) - ((((nI n).toUInt32 >>> ((nI 1).toUInt32 &&& Int32.toUInt32 31)).toInt32) &&& (nI 1431655765))).toUInt32 >>> ((nI 2).toUInt32 &&& Int32.toUInt32 31)).toInt32) &&& (nI 858993459))).toUInt32 >>> ((nI 4).toUInt32 &&& Int32.toUInt32 31)).toInt32)) &&& (nI 252645135)).toUInt32 >>> ((nI 8).toUInt32 &&& Int32.toUInt32 31)).toInt32)).toUInt32 >>> ((nI 16).toUInt32 &&& Int32.toUInt32 31)).toInt32)))]) h dJ6_bitCount_0f7a4_47 rfl (by decide) rfl ?_
  refine g_iload_n h dJ6_bitCount_0f7a4_48 0 rfl ?_
  refine g_bipush h dJ6_bitCount_0f7a4_49 (by decide) ?_
  refine g_iand h dJ6_bitCount_0f7a4_51  ?_
  exact g_iret h hQ dJ6_bitCount_0f7a4_52 (congrArg (fun z => some (Value.int z)) (show (nI (pc (nI n))) = (((((((((nI n) - ((((nI n).toUInt32 >>> ((nI 1).toUInt32 &&& Int32.toUInt32 31)).toInt32) &&& (nI 1431655765))) &&& (nI 858993459)) + (((((nI n) - ((((nI n).toUInt32 >>> ((nI 1).toUInt32 &&& Int32.toUInt32 31)).toInt32) &&& (nI 1431655765))).toUInt32 >>> ((nI 2).toUInt32 &&& Int32.toUInt32 31)).toInt32) &&& (nI 858993459))) + ((((((nI n) - ((((nI n).toUInt32 >>> ((nI 1).toUInt32 &&& Int32.toUInt32 31)).toInt32) &&& (nI 1431655765))) &&& (nI 858993459)) + (((((nI n) - ((((nI n).toUInt32 >>> ((nI 1).toUInt32 &&& Int32.toUInt32 31)).toInt32) &&& (nI 1431655765))).toUInt32 >>> ((nI 2).toUInt32 &&& Int32.toUInt32 31)).toInt32) &&& (nI 858993459))).toUInt32 >>> ((nI 4).toUInt32 &&& Int32.toUInt32 31)).toInt32)) &&& (nI 252645135)) + ((((((((nI n) - ((((nI n).toUInt32 >>> ((nI 1).toUInt32 &&& Int32.toUInt32 31)).toInt32) &&& (nI 1431655765))) &&& (nI 858993459)) + (((((nI n) - ((((nI n).toUInt32 >>> ((nI 1).toUInt32 &&& Int32.toUInt32 31)).toInt32) &&& (nI 1431655765))).toUInt32 >>> ((nI 2).toUInt32 &&& Int32.toUInt32 31)).toInt32) &&& (nI 858993459))) + ((((((nI n) - ((((nI n).toUInt32 >>> ((nI 1).toUInt32 &&& Int32.toUInt32 31)).toInt32) &&& (nI 1431655765))) &&& (nI 858993459)) + (((((nI n) - ((((nI n).toUInt32 >>> ((nI 1).toUInt32 &&& Int32.toUInt32 31)).toInt32) &&& (nI 1431655765))).toUInt32 >>> ((nI 2).toUInt32 &&& Int32.toUInt32 31)).toInt32) &&& (nI 858993459))).toUInt32 >>> ((nI 4).toUInt32 &&& Int32.toUInt32 31)).toInt32)) &&& (nI 252645135)).toUInt32 >>> ((nI 8).toUInt32 &&& Int32.toUInt32 31)).toInt32)) + (((((((((nI n) - ((((nI n).toUInt32 >>> ((nI 1).toUInt32 &&& Int32.toUInt32 31)).toInt32) &&& (nI 1431655765))) &&& (nI 858993459)) + (((((nI n) - ((((nI n).toUInt32 >>> ((nI 1).toUInt32 &&& Int32.toUInt32 31)).toInt32) &&& (nI 1431655765))).toUInt32 >>> ((nI 2).toUInt32 &&& Int32.toUInt32 31)).toInt32) &&& (nI 858993459))) + ((((((nI n) - ((((nI n).toUInt32 >>> ((nI 1).toUInt32 &&& Int32.toUInt32 31)).toInt32) &&& (nI 1431655765))) &&& (nI 858993459)) + (((((nI n) - ((((nI n).toUInt32 >>> ((nI 1).toUInt32 &&& Int32.toUInt32 31)).toInt32) &&& (nI 1431655765))).toUInt32 >>> ((nI 2).toUInt32 &&& Int32.toUInt32 31)).toInt32) &&& (nI 858993459))).toUInt32 >>> ((nI 4).toUInt32 &&& Int32.toUInt32 31)).toInt32)) &&& (nI 252645135)) + ((((((((nI n) - ((((nI n).toUInt32 >>> ((nI 1).toUInt32 &&& Int32.toUInt32 31)).toInt32) &&& (nI 1431655765))) &&& (nI 858993459)) + (((((nI n) - ((((nI n).toUInt32 >>> ((nI 1).toUInt32 &&& Int32.toUInt32 31)).toInt32) &&& (nI 1431655765))).toUInt32 >>> ((nI 2).toUInt32 &&& Int32.toUInt32 31)).toInt32) &&& (nI 858993459))) + ((((((nI n) - ((((nI n).toUInt32 >>> ((nI 1).toUInt32 &&& Int32.toUInt32 31)).toInt32) &&& (nI 1431655765))) &&& (nI 858993459)) + (((((nI n) - ((((nI n).toUInt32 >>> ((nI 1).toUInt32 &&& Int32.toUInt32 31)).toInt32) &&& (nI 1431655765))).toUInt32 >>> ((nI 2).toUInt32 &&& Int32.toUInt32 31)).toInt32) &&& (nI 858993459))).toUInt32 >>> ((nI 4).toUInt32 &&& Int32.toUInt32 31)).toInt32)) &&& (nI 252645135)).toUInt32 >>> ((nI 8).toUInt32 &&& Int32.toUInt32 31)).toInt32)).toUInt32 >>> ((nI 16).toUInt32 &&& Int32.toUInt32 31)).toInt32)) &&& (nI 63)) by have key : ∀ n, n < 256 → nI (pc (nI n)) = (((((((((nI n) - ((((nI n).toUInt32 >>> ((nI 1).toUInt32 &&& Int32.toUInt32 31)).toInt32) &&& (nI 1431655765))) &&& (nI 858993459)) + (((((nI n) - ((((nI n).toUInt32 >>> ((nI 1).toUInt32 &&& Int32.toUInt32 31)).toInt32) &&& (nI 1431655765))).toUInt32 >>> ((nI 2).toUInt32 &&& Int32.toUInt32 31)).toInt32) &&& (nI 858993459))) + ((((((nI n) - ((((nI n).toUInt32 >>> ((nI 1).toUInt32 &&& Int32.toUInt32 31)).toInt32) &&& (nI 1431655765))) &&& (nI 858993459)) + (((((nI n) - ((((nI n).toUInt32 >>> ((nI 1).toUInt32 &&& Int32.toUInt32 31)).toInt32) &&& (nI 1431655765))).toUInt32 >>> ((nI 2).toUInt32 &&& Int32.toUInt32 31)).toInt32) &&& (nI 858993459))).toUInt32 >>> ((nI 4).toUInt32 &&& Int32.toUInt32 31)).toInt32)) &&& (nI 252645135)) + ((((((((nI n) - ((((nI n).toUInt32 >>> ((nI 1).toUInt32 &&& Int32.toUInt32 31)).toInt32) &&& (nI 1431655765))) &&& (nI 858993459)) + (((((nI n) - ((((nI n).toUInt32 >>> ((nI 1).toUInt32 &&& Int32.toUInt32 31)).toInt32) &&& (nI 1431655765))).toUInt32 >>> ((nI 2).toUInt32 &&& Int32.toUInt32 31)).toInt32) &&& (nI 858993459))) + ((((((nI n) - ((((nI n).toUInt32 >>> ((nI 1).toUInt32 &&& Int32.toUInt32 31)).toInt32) &&& (nI 1431655765))) &&& (nI 858993459)) + (((((nI n) - ((((nI n).toUInt32 >>> ((nI 1).toUInt32 &&& Int32.toUInt32 31)).toInt32) &&& (nI 1431655765))).toUInt32 >>> ((nI 2).toUInt32 &&& Int32.toUInt32 31)).toInt32) &&& (nI 858993459))).toUInt32 >>> ((nI 4).toUInt32 &&& Int32.toUInt32 31)).toInt32)) &&& (nI 252645135)).toUInt32 >>> ((nI 8).toUInt32 &&& Int32.toUInt32 31)).toInt32)) + (((((((((nI n) - ((((nI n).toUInt32 >>> ((nI 1).toUInt32 &&& Int32.toUInt32 31)).toInt32) &&& (nI 1431655765))) &&& (nI 858993459)) + (((((nI n) - ((((nI n).toUInt32 >>> ((nI 1).toUInt32 &&& Int32.toUInt32 31)).toInt32) &&& (nI 1431655765))).toUInt32 >>> ((nI 2).toUInt32 &&& Int32.toUInt32 31)).toInt32) &&& (nI 858993459))) + ((((((nI n) - ((((nI n).toUInt32 >>> ((nI 1).toUInt32 &&& Int32.toUInt32 31)).toInt32) &&& (nI 1431655765))) &&& (nI 858993459)) + (((((nI n) - ((((nI n).toUInt32 >>> ((nI 1).toUInt32 &&& Int32.toUInt32 31)).toInt32) &&& (nI 1431655765))).toUInt32 >>> ((nI 2).toUInt32 &&& Int32.toUInt32 31)).toInt32) &&& (nI 858993459))).toUInt32 >>> ((nI 4).toUInt32 &&& Int32.toUInt32 31)).toInt32)) &&& (nI 252645135)) + ((((((((nI n) - ((((nI n).toUInt32 >>> ((nI 1).toUInt32 &&& Int32.toUInt32 31)).toInt32) &&& (nI 1431655765))) &&& (nI 858993459)) + (((((nI n) - ((((nI n).toUInt32 >>> ((nI 1).toUInt32 &&& Int32.toUInt32 31)).toInt32) &&& (nI 1431655765))).toUInt32 >>> ((nI 2).toUInt32 &&& Int32.toUInt32 31)).toInt32) &&& (nI 858993459))) + ((((((nI n) - ((((nI n).toUInt32 >>> ((nI 1).toUInt32 &&& Int32.toUInt32 31)).toInt32) &&& (nI 1431655765))) &&& (nI 858993459)) + (((((nI n) - ((((nI n).toUInt32 >>> ((nI 1).toUInt32 &&& Int32.toUInt32 31)).toInt32) &&& (nI 1431655765))).toUInt32 >>> ((nI 2).toUInt32 &&& Int32.toUInt32 31)).toInt32) &&& (nI 858993459))).toUInt32 >>> ((nI 4).toUInt32 &&& Int32.toUInt32 31)).toInt32)) &&& (nI 252645135)).toUInt32 >>> ((nI 8).toUInt32 &&& Int32.toUInt32 31)).toInt32)).toUInt32 >>> ((nI 16).toUInt32 &&& Int32.toUInt32 31)).toInt32)) &&& (nI 63)) := (by decide +kernel); exact key n hn)) rfl

theorem j_bc {l : Launch} {w : Wd} (hW : Wi w) {σ : Mem} (s : Int32) (hs : sb 8 s) : MC l w qJ6_bitCount_0f7a4 0 [.int s] σ (some (.int (nI (pc s)))) (fun σ' => σ' = σ) := by
  obtain ⟨n, hn, rfl⟩ := s8_ex hs
  exact j_bcN hW n hn

set_option maxRecDepth 100000 in
set_option maxHeartbeats 4000000 in
theorem c_at {l : Launch} {w : Wd} (hW : Wi w) {σ : Mem} (a b : Nat)  : MC l w qX5_at 0 [.int (nI a), .int (nI b)] σ (some (.int (nI (8 * a + b)))) (fun σ' => σ' = σ) := by
  refine MC.of hW (by decide +kernel) (Nat.le_of_ble_eq_true rfl) (fun X h hQ hnm => ?_)
  have h : Fx X w cX5_at 2 RX5 0 := h
  have hQ : Qx X w (some .int) (some (.int (nI (8 * a + b)))) (fun σ' => σ' = σ) := hQ
  show G X w 2 0 [(0, .int (nI a)), (1, .int (nI b))] [] σ
  refine g_iload_n h dX5_at_0 0 rfl ?_
  refine g_bipush h dX5_at_1 (by decide) ?_
  refine g_imulN h dX5_at_3  ?_
  refine g_iload_n h dX5_at_4 1 rfl ?_
  refine g_iaddN h dX5_at_5  ?_
  exact g_iret h hQ dX5_at_6 (congrArg (fun z => some (Value.int z)) (show (nI (8 * a + b)) = (nI (a * 8 + b)) by rw [Nat.mul_comm])) rfl

set_option maxRecDepth 100000 in
set_option maxHeartbeats 4000000 in
theorem c_bit {l : Launch} {w : Wd} (hW : Wi w) {σ : Mem} (k : Nat)  : MC l w qX5_bit 0 [.int (nI k)] σ (some (.int (bt1 k))) (fun σ' => σ' = σ) := by
  refine MC.of hW (by decide +kernel) (Nat.le_of_ble_eq_true rfl) (fun X h hQ hnm => ?_)
  have h : Fx X w cX5_bit 1 RX5 0 := h
  have hQ : Qx X w (some .int) (some (.int (bt1 k))) (fun σ' => σ' = σ) := hQ
  show G X w 1 0 [(0, .int (nI k))] [] σ
  refine g_iconst h dX5_bit_0 (by decide) ?_
  refine g_iload_n h dX5_bit_1 0 rfl ?_
  refine g_ishl h dX5_bit_2  ?_
  refine g_top (y := bt1 k) rfl ?_
  exact g_iret h hQ dX5_bit_3 rfl rfl

set_option maxRecDepth 100000 in
set_option maxHeartbeats 4000000 in
theorem c_has {l : Launch} {w : Wd} (hW : Wi w) {σ : Mem} (s : Int32) (k : Nat) (hk : k < 32) : MC l w qX5_has 0 [.int s, .int (nI k)] σ (some (.int (b2i (tb s k)))) (fun σ' => σ' = σ) := by
  refine MC.of hW (by decide +kernel) (Nat.le_of_ble_eq_true rfl) (fun X h hQ hnm => ?_)
  have h : Fx X w cX5_has 2 RX5 0 := h
  have hQ : Qx X w (some .boolean) (some (.int (b2i (tb s k)))) (fun σ' => σ' = σ) := hQ
  show G X w 2 0 [(0, .int s), (1, .int (nI k))] [] σ
  refine g_iload_n h dX5_has_0 0 rfl ?_
  refine g_iload_n h dX5_has_1 1 rfl ?_
  refine g_ishr h dX5_has_2  ?_
  refine g_iconst h dX5_has_3 (by decide) ?_
  refine g_iand h dX5_has_4  ?_
  refine g_top (y := (b2i (tb s k))) (has_eq hk) ?_
  refine g_ifB_eq h dX5_has_5 (fun c5 => ?_) (fun c5 => ?_)
  ·
    refine g_iconst h dX5_has_12 (by decide) ?_
    exact g_zret h hQ dX5_has_13 (show narrow .boolean (.int (b2i false)) = .int (b2i false) from narrow_b2i _) (congrArg (fun z => some (Value.int (b2i z))) (show (tb s k) = false by exact c5)) rfl
  ·
    refine g_iconst h dX5_has_8 (by decide) ?_
    refine g_goto h dX5_has_9 ?_
    exact g_zret h hQ dX5_has_13 (show narrow .boolean (.int (b2i true)) = .int (b2i true) from narrow_b2i _) (congrArg (fun z => some (Value.int (b2i z))) (show (tb s k) = true by exact c5)) rfl

set_option maxRecDepth 100000 in
set_option maxHeartbeats 4000000 in
theorem c_with {l : Launch} {w : Wd} (hW : Wi w) {σ : Mem} (s : Int32) (k : Nat) (p : Bool)  : MC l w qX5_with 0 [.int s, .int (nI k), .int (b2i p)] σ (some (.int (wth s k p))) (fun σ' => σ' = σ) := by
  refine MC.of hW (by decide +kernel) (Nat.le_of_ble_eq_true rfl) (fun X h hQ hnm => ?_)
  have h : Fx X w cX5_with 3 RX5 0 := h
  have hQ : Qx X w (some .int) (some (.int (wth s k p))) (fun σ' => σ' = σ) := hQ
  show G X w 3 0 [(0, .int s), (1, .int (nI k)), (2, .int (b2i p))] [] σ
  refine g_iload_n h dX5_with_0 2 rfl ?_
  refine g_ifB_eq h dX5_with_1 (fun c1 => ?_) (fun c1 => ?_)
  ·
    refine g_iload_n h dX5_with_12 0 rfl ?_
    refine g_iconst h dX5_with_13 (by decide) ?_
    refine g_iload_n h dX5_with_14 1 rfl ?_
    refine g_ishl h dX5_with_15  ?_
    refine g_top (y := bt1 k) rfl ?_
    refine g_iconstv h dX5_with_16 (v := (-1)) (by decide) ?_
    refine g_ixor h dX5_with_17  ?_
    refine g_top (y := nots (bt1 k)) rfl ?_
    refine g_iand h dX5_with_18  ?_
    exact g_iret h hQ dX5_with_19 (congrArg (fun z => some (Value.int z)) (show (wth s k p) = (s &&& (nots (bt1 k))) by rw [c1]; rfl)) rfl
  ·
    refine g_iload_n h dX5_with_4 0 rfl ?_
    refine g_iconst h dX5_with_5 (by decide) ?_
    refine g_iload_n h dX5_with_6 1 rfl ?_
    refine g_ishl h dX5_with_7  ?_
    refine g_top (y := bt1 k) rfl ?_
    refine g_ior h dX5_with_8  ?_
    refine g_goto h dX5_with_9 ?_
    exact g_iret h hQ dX5_with_19 (congrArg (fun z => some (Value.int z)) (show (wth s k p) = (s ||| (bt1 k)) by rw [c1]; rfl)) rfl

set_option maxRecDepth 100000 in
set_option maxHeartbeats 4000000 in
theorem c_isNode {l : Launch} {w : Wd} (hW : Wi w) {σ : Mem} (k : Int32) (m : Nat) (μ : Nat → Int32) (hm : m < 6) (hv : vw (vb m) σ = μ) : MC l w qX5_isNode 0 [.ref (w.1 (mc m 0)), .int k] σ (some (.int (b2i (decide (0 ≤ k) && decide (k < μ 0))))) (fun σ' => σ' = σ) := by
  refine MC.of hW (by decide +kernel) (Nat.le_of_ble_eq_true rfl) (fun X h hQ hnm => ?_)
  have h : Fx X w cX5_isNode 2 RX5 0 := h
  have hQ : Qx X w (some .boolean) (some (.int (b2i (decide (0 ≤ k) && decide (k < μ 0))))) (fun σ' => σ' = σ) := hQ
  show G X w 2 0 [(0, .ref (w.1 (mc m 0))), (1, .int k)] [] σ
  refine g_iload_n h dX5_isNode_0 1 rfl ?_
  refine g_if_lt h dX5_isNode_1 (fun c1 => ?_) (fun c1 => ?_)
  ·
    refine g_iconst h dX5_isNode_16 (by decide) ?_
    exact g_zret h hQ dX5_isNode_17 (show narrow .boolean (.int (b2i false)) = .int (b2i false) from narrow_b2i _) (congrArg (fun z => some (Value.int (b2i z))) (show (decide (0 ≤ k) && decide (k < μ 0)) = false by first | simp [Int32.not_le.mpr c1] | simp [Int32.not_lt.mp c1, Int32.not_lt.mpr c9] | simp [Int32.not_lt.mp c1, Int32.not_le.mp c9] | fail)) rfl
  ·
    refine g_iload_n h dX5_isNode_4 1 rfl ?_
    refine g_aload_n h dX5_isNode_5 0 rfl ?_
    refine g_geti h dX5_isNode_6 gX5_38 (sM_0 (m := m) (by omega)) rfl ?_
    refine g_top (y := μ 0) (vw_pic (b := (vb m)) (k := 0) (by first | exact hv | assumption) (by omega)) ?_
    refine g_icmp_ge h dX5_isNode_9 (fun c9 => ?_) (fun c9 => ?_)
    ·
      refine g_iconst h dX5_isNode_16 (by decide) ?_
      exact g_zret h hQ dX5_isNode_17 (show narrow .boolean (.int (b2i false)) = .int (b2i false) from narrow_b2i _) (congrArg (fun z => some (Value.int (b2i z))) (show (decide (0 ≤ k) && decide (k < μ 0)) = false by first | simp [Int32.not_le.mpr c1] | simp [Int32.not_lt.mp c1, Int32.not_lt.mpr c9] | simp [Int32.not_lt.mp c1, Int32.not_le.mp c9] | fail)) rfl
    ·
      refine g_iconst h dX5_isNode_12 (by decide) ?_
      refine g_goto h dX5_isNode_13 ?_
      exact g_zret h hQ dX5_isNode_17 (show narrow .boolean (.int (b2i true)) = .int (b2i true) from narrow_b2i _) (congrArg (fun z => some (Value.int (b2i z))) (show (decide (0 ≤ k) && decide (k < μ 0)) = true by first | simp [Int32.not_le.mpr c1] | simp [Int32.not_lt.mp c1, Int32.not_lt.mpr c9] | simp [Int32.not_lt.mp c1, Int32.not_le.mp c9] | fail)) rfl

set_option maxRecDepth 100000 in
set_option maxHeartbeats 4000000 in
theorem c_isNodeN {l : Launch} {w : Wd} (hW : Wi w) {σ : Mem} (k : Nat) (m : Nat) (μ : Nat → Int32) (hm : m < 6) (hv : vw (vb m) σ = μ) (hI : MI μ) (hk : k < 32) : MC l w qX5_isNode 0 [.ref (w.1 (mc m 0)), .int (nI k)] σ (some (.int (b2i (decide (k < nN μ))))) (fun σ' => σ' = σ) := by
  refine MC.of hW (by decide +kernel) (Nat.le_of_ble_eq_true rfl) (fun X h hQ hnm => ?_)
  have h : Fx X w cX5_isNode 2 RX5 0 := h
  have hQ : Qx X w (some .boolean) (some (.int (b2i (decide (k < nN μ))))) (fun σ' => σ' = σ) := hQ
  have hN8 := mi_8 hI
  show G X w 2 0 [(0, .ref (w.1 (mc m 0))), (1, .int (nI k))] [] σ
  refine g_iload_n h dX5_isNode_0 1 rfl ?_
  refine g_ifN_lt h dX5_isNode_1 (by omega) ?_
  refine g_iload_n h dX5_isNode_4 1 rfl ?_
  refine g_aload_n h dX5_isNode_5 0 rfl ?_
  refine g_geti h dX5_isNode_6 gX5_38 (sM_0 (m := m) (by omega)) rfl ?_
  refine g_top (y := μ 0) (vw_pic (b := (vb m)) (k := 0) (by first | exact hv | assumption) (by omega)) ?_
  refine g_top (y := nI (nN μ)) (mi_0 (by assumption)) ?_
  refine g_icmpN_ge h dX5_isNode_9 (by omega) (by omega) (fun c9 => ?_) (fun c9 => ?_)
  ·
    refine g_iconst h dX5_isNode_16 (by decide) ?_
    exact g_zret h hQ dX5_isNode_17 (show narrow .boolean (.int (b2i false)) = .int (b2i false) from narrow_b2i _) (congrArg (fun z => some (Value.int (b2i z))) (show (decide (k < nN μ)) = false by simp; omega)) rfl
  ·
    refine g_iconst h dX5_isNode_12 (by decide) ?_
    refine g_goto h dX5_isNode_13 ?_
    exact g_zret h hQ dX5_isNode_17 (show narrow .boolean (.int (b2i true)) = .int (b2i true) from narrow_b2i _) (congrArg (fun z => some (Value.int (b2i z))) (show (decide (k < nN μ)) = true by simp; omega)) rfl

set_option maxRecDepth 100000 in
set_option maxHeartbeats 4000000 in
theorem c_isOnN {l : Launch} {w : Wd} (hW : Wi w) {σ : Mem} (k : Nat) (m : Nat) (μ : Nat → Int32) (hm : m < 6) (hv : vw (vb m) σ = μ) (hI : MI μ) (hk : k < 32) : MC l w qX5_isOn 1 [.ref (w.1 (mc m 0)), .int (nI k)] σ (some (.int (b2i (decide (k < nN μ) && tb (μ 1) k)))) (fun σ' => σ' = σ) := by
  refine MC.of hW (by decide +kernel) (Nat.le_of_ble_eq_true rfl) (fun X h hQ hnm => ?_)
  have h : Fx X w cX5_isOn 2 RX5 1 := h
  have hQ : Qx X w (some .boolean) (some (.int (b2i (decide (k < nN μ) && tb (μ 1) k)))) (fun σ' => σ' = σ) := hQ
  have hN8 := mi_8 hI
  show G X w 2 0 [(0, .ref (w.1 (mc m 0))), (1, .int (nI k))] [] σ
  refine g_aload_n h dX5_isOn_0 0 rfl ?_
  refine g_iload_n h dX5_isOn_1 1 rfl ?_
  refine g_cvpi (rest := []) h (c_isNodeN hW k m μ (by first | omega | decide | fail) (by first | exact hv | assumption | fail) (by assumption) (by omega)) lX5_isNode mX5_81 (Nat.lt_of_lt_of_le (by decide) (Nat.le_refl _)) (by decide) (sM_0 (m := m) (by omega)) rfl rfl rfl rfl dX5_isOn_2 ?_
  refine g_ifB_eq h dX5_isOn_5 (fun c5 => ?_) (fun c5 => ?_)
  ·
    refine g_iconst h dX5_isOn_23 (by decide) ?_
    exact g_zret h hQ dX5_isOn_24 (show narrow .boolean (.int (b2i false)) = .int (b2i false) from narrow_b2i _) (congrArg (fun z => some (Value.int (b2i z))) (show (decide (k < nN μ) && tb (μ 1) k) = false by first | (rw [c5]; rfl) | (rw [c5, c16]; rfl) | fail)) rfl
  ·
    refine g_aload_n h dX5_isOn_8 0 rfl ?_
    refine g_geti h dX5_isOn_9 gX5_42 (sM_0 (m := m) (by omega)) rfl ?_
    refine g_top (y := μ 1) (vw_pic (b := (vb m)) (k := 1) (by first | exact hv | assumption) (by omega)) ?_
    refine g_iload_n h dX5_isOn_12 1 rfl ?_
    refine g_cspi (rest := []) h (c_has hW (μ 1) k (by omega)) lX5_has mX5_85 (Nat.lt_of_lt_of_le (by decide) (Nat.le_refl _)) (by decide) rfl rfl rfl dX5_isOn_13 ?_
    refine g_ifB_eq h dX5_isOn_16 (fun c16 => ?_) (fun c16 => ?_)
    ·
      refine g_iconst h dX5_isOn_23 (by decide) ?_
      exact g_zret h hQ dX5_isOn_24 (show narrow .boolean (.int (b2i false)) = .int (b2i false) from narrow_b2i _) (congrArg (fun z => some (Value.int (b2i z))) (show (decide (k < nN μ) && tb (μ 1) k) = false by first | (rw [c5]; rfl) | (rw [c5, c16]; rfl) | fail)) rfl
    ·
      refine g_iconst h dX5_isOn_19 (by decide) ?_
      refine g_goto h dX5_isOn_20 ?_
      exact g_zret h hQ dX5_isOn_24 (show narrow .boolean (.int (b2i true)) = .int (b2i true) from narrow_b2i _) (congrArg (fun z => some (Value.int (b2i z))) (show (decide (k < nN μ) && tb (μ 1) k) = true by first | (rw [c5]; rfl) | (rw [c5, c16]; rfl) | fail)) rfl

theorem c_isOnJ {l : Launch} {w : Wd} (hW : Wi w) {σ : Mem} (k : Nat) (m : Nat) (μ : Nat → Int32) (hm : m < 6) (hv : vw (vb m) σ = μ) (hI : MI μ) (hk : k < nN μ) : MC l w qX5_isOn 1 [.ref (w.1 (mc m 0)), .int (nI k)] σ (some (.int (b2i (tb (μ 1) k)))) (fun σ' => σ' = σ) := by
  have e := c_isOnN (l := l) hW k m μ hm hv hI (by have := mi_8 hI; omega)
  rwa [show (decide (k < nN μ) && tb (μ 1) k) = tb (μ 1) k from by simp [hk]] at e

set_option maxRecDepth 100000 in
set_option maxHeartbeats 4000000 in
theorem c_comesTo {l : Launch} {w : Wd} (hW : Wi w) {σ : Mem} (a b : Nat) (m : Nat) (μ : Nat → Int32) (hm : m < 6) (hv : vw (vb m) σ = μ) (hI : MI μ) (ha : a < 8) (hb : b < 8) : MC l w qX5_comesTo 1 [.ref (w.1 (mc m 0)), .int (nI a), .int (nI b)] σ (some (.int (b2i (cms μ a b)))) (fun σ' => σ' = σ) := by
  refine MC.of hW (by decide +kernel) (Nat.le_of_ble_eq_true rfl) (fun X h hQ hnm => ?_)
  have h : Fx X w cX5_comesTo 3 RX5 1 := h
  have hQ : Qx X w (some .boolean) (some (.int (b2i (cms μ a b)))) (fun σ' => σ' = σ) := hQ
  have hN8 := mi_8 hI
  show G X w 3 0 [(0, .ref (w.1 (mc m 0))), (1, .int (nI a)), (2, .int (nI b))] [] σ
  refine g_aload_n h dX5_comesTo_0 0 rfl ?_
  refine g_geti h dX5_comesTo_1 gX5_42 (sM_0 (m := m) (by omega)) rfl ?_
  refine g_top (y := μ 1) (vw_pic (b := (vb m)) (k := 1) (by first | exact hv | assumption) (by omega)) ?_
  refine g_iload_n h dX5_comesTo_4 1 rfl ?_
  refine g_cspi (rest := []) h (c_has hW (μ 1) a (by omega)) lX5_has mX5_85 (Nat.lt_of_lt_of_le (by decide) (Nat.le_refl _)) (by decide) rfl rfl rfl dX5_comesTo_5 ?_
  refine g_ifB_eq h dX5_comesTo_8 (fun c8 => ?_) (fun c8 => ?_)
  ·
    refine g_iconst h dX5_comesTo_52 (by decide) ?_
    exact g_zret h hQ dX5_comesTo_53 (show narrow .boolean (.int (b2i false)) = .int (b2i false) from narrow_b2i _) (congrArg (fun z => some (Value.int (b2i z))) (show (cms μ a b) = false by unfold cms; simp [c8])) rfl
  ·
    refine g_aload_n h dX5_comesTo_11 0 rfl ?_
    refine g_geti h dX5_comesTo_12 gX5_42 (sM_0 (m := m) (by omega)) rfl ?_
    refine g_top (y := μ 1) (vw_pic (b := (vb m)) (k := 1) (by first | exact hv | assumption) (by omega)) ?_
    refine g_iload_n h dX5_comesTo_15 2 rfl ?_
    refine g_cspi (rest := []) h (c_has hW (μ 1) b (by omega)) lX5_has mX5_85 (Nat.lt_of_lt_of_le (by decide) (Nat.le_refl _)) (by decide) rfl rfl rfl dX5_comesTo_16 ?_
    refine g_ifB_eq h dX5_comesTo_19 (fun c19 => ?_) (fun c19 => ?_)
    ·
      refine g_iconst h dX5_comesTo_52 (by decide) ?_
      exact g_zret h hQ dX5_comesTo_53 (show narrow .boolean (.int (b2i false)) = .int (b2i false) from narrow_b2i _) (congrArg (fun z => some (Value.int (b2i z))) (show (cms μ a b) = false by unfold cms; simp [c8, c19])) rfl
    ·
      refine g_aload_n h dX5_comesTo_22 0 rfl ?_
      refine g_getr h dX5_comesTo_23 gX5_15 (sM_0 (m := m) (by omega)) rfl ?_
      refine g_iload_n h dX5_comesTo_26 1 rfl ?_
      refine g_iald h dX5_comesTo_27 (sM_2 (m := m) (by omega)) (by omega) ?_
      refine g_top (y := μ (24 + a)) (vw_pic (b := (vb m)) (k := 24 + a) (by first | exact hv | assumption) (by omega)) ?_
      refine g_iload_n h dX5_comesTo_28 2 rfl ?_
      refine g_cspi (rest := []) h (c_has hW (μ (24 + a)) b (by omega)) lX5_has mX5_85 (Nat.lt_of_lt_of_le (by decide) (Nat.le_refl _)) (by decide) rfl rfl rfl dX5_comesTo_29 ?_
      refine g_ifB_eq h dX5_comesTo_32 (fun c32 => ?_) (fun c32 => ?_)
      ·
        refine g_iconst h dX5_comesTo_52 (by decide) ?_
        exact g_zret h hQ dX5_comesTo_53 (show narrow .boolean (.int (b2i false)) = .int (b2i false) from narrow_b2i _) (congrArg (fun z => some (Value.int (b2i z))) (show (cms μ a b) = false by unfold cms; simp [c8, c19, c32])) rfl
      ·
        have b9 := mb_208 hI (j := 8 * b + a) (by omega)
        refine g_aload_n h dX5_comesTo_35 0 rfl ?_
        refine g_getr h dX5_comesTo_36 gX5_18 (sM_0 (m := m) (by omega)) rfl ?_
        refine g_iload_n h dX5_comesTo_39 1 rfl ?_
        refine g_iload_n h dX5_comesTo_40 2 rfl ?_
        refine g_cspi (rest := [.ref (w.1 (mc m 3))]) h (c_at hW a b ) lX5_at mX5_93 (Nat.lt_of_lt_of_le (by decide) (Nat.le_refl _)) (by decide) rfl rfl rfl dX5_comesTo_41 ?_
        refine g_iald h dX5_comesTo_44 (sM_3 (m := m) (by omega)) (by omega) ?_
        refine g_top (y := μ (208 + tr (8 * a + b))) (vw_pic (b := (vb m)) (k := 208 + tr (8 * a + b)) (by first | exact hv | assumption) (by rw [tr_at ha hb]; omega)) ?_
        refine g_top (y := (nI (nA μ (208 + (8 * b + a))))) (by rw [tr_at ha hb]; exact mi_208 hI (by omega)) ?_
        refine g_ifN_ne h dX5_comesTo_45 (by omega) (fun c45 => ?_) (fun c45 => ?_)
        ·
          refine g_iconst h dX5_comesTo_52 (by decide) ?_
          exact g_zret h hQ dX5_comesTo_53 (show narrow .boolean (.int (b2i false)) = .int (b2i false) from narrow_b2i _) (congrArg (fun z => some (Value.int (b2i z))) (show (cms μ a b) = false by unfold cms; simp [c8, c19, c32, c45])) rfl
        ·
          refine g_iconst h dX5_comesTo_48 (by decide) ?_
          refine g_goto h dX5_comesTo_49 ?_
          exact g_zret h hQ dX5_comesTo_53 (show narrow .boolean (.int (b2i true)) = .int (b2i true) from narrow_b2i _) (congrArg (fun z => some (Value.int (b2i z))) (show (cms μ a b) = true by unfold cms; simp [c8, c19, c32, c45])) rfl

set_option maxRecDepth 100000 in
set_option maxHeartbeats 4000000 in
theorem c_isUpAt {l : Launch} {w : Wd} (hW : Wi w) {σ : Mem} (q : Nat) (p : Bool) (m : Nat) (μ : Nat → Int32) (hm : m < 6) (hv : vw (vb m) σ = μ) (hI : MI μ) (hq : q < 1000) : MC l w qX5_isUpAt 0 [.ref (w.1 (mc m 0)), .int (nI q), .int (b2i p)] σ (some (.int (b2i (isU μ q p)))) (fun σ' => σ' = σ) := by
  refine MC.of hW (by decide +kernel) (Nat.le_of_ble_eq_true rfl) (fun X h hQ hnm => ?_)
  have h : Fx X w cX5_isUpAt 3 RX5 0 := h
  have hQ : Qx X w (some .boolean) (some (.int (b2i (isU μ q p)))) (fun σ' => σ' = σ) := hQ
  have hN8 := mi_8 hI
  show G X w 3 0 [(0, .ref (w.1 (mc m 0))), (1, .int (nI q)), (2, .int (b2i p))] [] σ
  refine g_iload_n h dX5_isUpAt_0 1 rfl ?_
  refine g_aload_n h dX5_isUpAt_1 0 rfl ?_
  refine g_geti h dX5_isUpAt_2 gX5_54 (sM_0 (m := m) (by omega)) rfl ?_
  refine g_top (y := μ 5) (vw_pic (b := (vb m)) (k := 5) (by first | exact hv | assumption) (by omega)) ?_
  refine g_top (y := nI (nA μ 5)) (mi_5 (by assumption)) ?_
  have b9_2 : nA μ 5 < 1000 := mb_5 (by assumption)
  refine g_icmpN_ge h dX5_isUpAt_5 (by omega) (by omega) (fun c5 => ?_) (fun c5 => ?_)
  ·
    refine g_iconst h dX5_isUpAt_20 (by decide) ?_
    refine g_goto h dX5_isUpAt_21 ?_
    exact g_zret h hQ dX5_isUpAt_25 (show narrow .boolean (.int (b2i true)) = .int (b2i true) from narrow_b2i _) (congrArg (fun z => some (Value.int (b2i z))) (show (isU μ q p) = true by unfold isU; simp [c5]; try omega)) rfl
  ·
    refine g_iload_n h dX5_isUpAt_8 1 rfl ?_
    refine g_aload_n h dX5_isUpAt_9 0 rfl ?_
    refine g_geti h dX5_isUpAt_10 gX5_57 (sM_0 (m := m) (by omega)) rfl ?_
    refine g_top (y := μ 6) (vw_pic (b := (vb m)) (k := 6) (by first | exact hv | assumption) (by omega)) ?_
    refine g_top (y := nI (nA μ 6)) (mi_6 (by assumption)) ?_
    have b9_10 : nA μ 6 < 1000 := mb_6 (by assumption)
    refine g_icmpN_lt h dX5_isUpAt_13 (by omega) (by omega) (fun c13 => ?_) (fun c13 => ?_)
    ·
      refine g_iconst h dX5_isUpAt_24 (by decide) ?_
      exact g_zret h hQ dX5_isUpAt_25 (show narrow .boolean (.int (b2i false)) = .int (b2i false) from narrow_b2i _) (congrArg (fun z => some (Value.int (b2i z))) (show (isU μ q p) = false by unfold isU; simp [c5, c13]; try omega)) rfl
    ·
      refine g_iload_n h dX5_isUpAt_16 2 rfl ?_
      refine g_ifB_eq h dX5_isUpAt_17 (fun c17 => ?_) (fun c17 => ?_)
      ·
        refine g_iconst h dX5_isUpAt_24 (by decide) ?_
        exact g_zret h hQ dX5_isUpAt_25 (show narrow .boolean (.int (b2i false)) = .int (b2i false) from narrow_b2i _) (congrArg (fun z => some (Value.int (b2i z))) (show (isU μ q p) = false by unfold isU; simp [c5, c13, c17]; try omega)) rfl
      ·
        refine g_iconst h dX5_isUpAt_20 (by decide) ?_
        refine g_goto h dX5_isUpAt_21 ?_
        exact g_zret h hQ dX5_isUpAt_25 (show narrow .boolean (.int (b2i true)) = .int (b2i true) from narrow_b2i _) (congrArg (fun z => some (Value.int (b2i z))) (show (isU μ q p) = true by unfold isU; simp [c5, c13, c17]; try omega)) rfl

set_option maxRecDepth 100000 in
set_option maxHeartbeats 4000000 in
theorem c_quality {l : Launch} {w : Wd} (hW : Wi w) {σ : Mem} (q : Nat) (p : Bool) (hq : q < 1000) : MC l w qX3_qualityAfter 0 [.int (nI q), .int (b2i p)] σ (some (.int (nI (prv q p)))) (fun σ' => σ' = σ) := by
  refine MC.of hW (by decide +kernel) (Nat.le_of_ble_eq_true rfl) (fun X h hQ hnm => ?_)
  have h : Fx X w cX3_qualityAfter 2 RX3 0 := h
  have hQ : Qx X w (some .int) (some (.int (nI (prv q p)))) (fun σ' => σ' = σ) := hQ
  show G X w 2 0 [(0, .int (nI q)), (1, .int (b2i p))] [] σ
  refine g_iload_n h dX3_qualityAfter_0 1 rfl ?_
  refine g_ifB_eq h dX3_qualityAfter_1 (fun c1 => ?_) (fun c1 => ?_)
  ·
    refine g_iload_n h dX3_qualityAfter_18 0 rfl ?_
    refine g_iconst h dX3_qualityAfter_19 (by decide) ?_
    refine g_idivN h dX3_qualityAfter_20 (by omega) (by omega) (by omega) ?_
    exact g_iret h hQ dX3_qualityAfter_21 (congrArg (fun z => some (Value.int z)) (show (nI (prv q p)) = (nI (q / 2)) by rw [c1]; rfl)) rfl
  ·
    refine g_iload_n h dX3_qualityAfter_4 0 rfl ?_
    refine g_sipush h dX3_qualityAfter_5 (by decide) ?_
    refine g_iload_n h dX3_qualityAfter_8 0 rfl ?_
    refine g_isubN h dX3_qualityAfter_9 (by omega) ?_
    refine g_iconst h dX3_qualityAfter_10 (by decide) ?_
    refine g_iaddN h dX3_qualityAfter_11  ?_
    refine g_iconst h dX3_qualityAfter_12 (by decide) ?_
    refine g_idivN h dX3_qualityAfter_13 (by omega) (by omega) (by omega) ?_
    refine g_iaddN h dX3_qualityAfter_14  ?_
    refine g_goto h dX3_qualityAfter_15 ?_
    exact g_iret h hQ dX3_qualityAfter_21 (congrArg (fun z => some (Value.int z)) (show (nI (prv q p)) = (nI (q + ((999 - q + 1) / 2))) by rw [c1]; rfl)) rfl

set_option maxRecDepth 100000 in
set_option maxHeartbeats 4000000 in
theorem c_willing {l : Launch} {w : Wd} (hW : Wi w) {σ : Mem} (i : Nat) (m : Nat) (μ : Nat → Int32) (hm : m < 6) (hv : vw (vb m) σ = μ) (hI : MI μ) (hi : i < 8) : MC l w qX0_willing 1 [.ref (w.1 (mc m 0)), .int (nI i)] σ (some (.int (wil μ i))) (fun σ' => σ' = σ) := by
  refine MC.of hW (by decide +kernel) (Nat.le_of_ble_eq_true rfl) (fun X h hQ hnm => ?_)
  have h : Fx X w cX0_willing 5 RX0 1 := h
  have hQ : Qx X w (some .int) (some (.int (wil μ i))) (fun σ' => σ' = σ) := hQ
  have hN8 := mi_8 hI
  show G X w 5 0 [(0, .ref (w.1 (mc m 0))), (1, .int (nI i))] [] σ
  refine g_iconst h dX0_willing_0 (by decide) ?_
  refine g_istore_n (L' := [(0, .ref (w.1 (mc m 0))), (1, .int (nI i)), (2, .int (nI 0))]) h dX0_willing_1 rfl (by decide) rfl ?_
  refine g_iconst h dX0_willing_2 (by decide) ?_
  refine g_istore_n (L' := [(0, .ref (w.1 (mc m 0))), (1, .int (nI i)), (2, .int (nI 0)), (3, .int (nI 0))]) h dX0_willing_3 rfl (by decide) rfl ?_
  have lp4 : ∀ (k9 : Nat) (s : Int32) (j : Nat), (s = mkS (fun j => tb (μ (64 + i)) j && decide (0 < nA μ (16 + j))) j) → (j ≤ nN μ) → nN μ - j < k9 → G X w 5 4 [(0, .ref (w.1 (mc m 0))), (1, .int (nI i)), (2, .int s), (3, .int (nI j))] [] σ := by
    intro k9
    induction k9 with
    | zero => intro s j hs hj hm9; exact absurd hm9 (Nat.not_lt_zero _)
    | succ k9 ih4 =>
      intro s j hs hj hm4
      refine g_iload_n h dX0_willing_4 3 rfl ?_
      refine g_aload_n h dX0_willing_5 0 rfl ?_
      refine g_geti h dX0_willing_6 gX0_15 (sM_0 (m := m) (by omega)) rfl ?_
      refine g_top (y := μ 0) (vw_pic (b := (vb m)) (k := 0) (by first | exact hv | assumption) (by omega)) ?_
      refine g_top (y := nI (nN μ)) (mi_0 (by assumption)) ?_
      refine g_icmpN_ge h dX0_willing_9 (by omega) (by omega) (fun c9 => ?_) (fun c9 => ?_)
      ·
        refine g_iload_n h dX0_willing_58 2 rfl ?_
        exact g_iret h hQ dX0_willing_59 (congrArg (fun z => some (Value.int z)) (show (wil μ i) = s by have e9 : j = nN μ := (by omega); subst e9; exact hs.symm)) rfl
      ·
        refine g_aload_n h dX0_willing_12 0 rfl ?_
        refine g_getr h dX0_willing_13 gX0_21 (sM_0 (m := m) (by omega)) rfl ?_
        refine g_getr h dX0_willing_16 gX0_25 (sM_4 (m := m) (by omega)) rfl ?_
        refine g_iload_n h dX0_willing_19 1 rfl ?_
        refine g_iald h dX0_willing_20 (sM_8 (m := m) (by omega)) (by omega) ?_
        refine g_top (y := μ (64 + i)) (vw_pic (b := (vb m)) (k := 64 + i) (by first | exact hv | assumption) (by omega)) ?_
        refine g_iload_n h dX0_willing_21 3 rfl ?_
        refine g_cspi (rest := []) h (c_has hW (μ (64 + i)) j (by omega)) lX5_has mX0_30 (Nat.lt_of_lt_of_le (by decide) (Nat.le_refl _)) (by decide) rfl rfl rfl dX0_willing_22 ?_
        refine g_ifB_eq h dX0_willing_25 (fun c25 => ?_) (fun c25 => ?_)
        ·
          refine g_iconst h dX0_willing_41 (by decide) ?_
          refine g_istore (L' := [(0, .ref (w.1 (mc m 0))), (1, .int (nI i)), (2, .int s), (3, .int (nI j)), (4, .int (nI 0))]) h dX0_willing_42 rfl (by decide) rfl ?_
          refine g_iload_n h dX0_willing_44 2 rfl ?_
          refine g_iload_n h dX0_willing_45 3 rfl ?_
          refine g_iload h dX0_willing_46 4 rfl ?_
          refine g_cspi (rest := []) h (c_with hW s j false ) lX5_with mX0_37 (Nat.lt_of_lt_of_le (by decide) (Nat.le_refl _)) (by decide) rfl rfl rfl dX0_willing_48 ?_
          refine g_istore_n (L' := [(0, .ref (w.1 (mc m 0))), (1, .int (nI i)), (2, .int (wth s j false)), (3, .int (nI j)), (4, .int (nI 0))]) h dX0_willing_51 rfl (by decide) rfl ?_
          refine g_iincN (b := 1) (L' := [(0, .ref (w.1 (mc m 0))), (1, .int (nI i)), (2, .int (wth s j false)), (3, .int (nI (j + 1))), (4, .int (nI 0))]) h dX0_willing_52 3 rfl rfl (by decide) (by decide) rfl ?_
          refine g_goto h dX0_willing_55 ?_
          exact g_sub [0, 1, 2, 3] rfl (ih4 (wth s j false) (j + 1) (by first | (simp [hs, mkS, orS, fN, or_n0, ful, lsO, bst, c9, c25]; done) | (rw [hs]; exact mkS_w (by omega) (by simp [c9, c25])) | fail | fail) (by omega) (by omega))
        ·
          refine g_aload_n h dX0_willing_28 0 rfl ?_
          refine g_getr h dX0_willing_29 gX0_34 (sM_0 (m := m) (by omega)) rfl ?_
          refine g_iload_n h dX0_willing_32 3 rfl ?_
          refine g_iald h dX0_willing_33 (sM_1 (m := m) (by omega)) (by omega) ?_
          refine g_top (y := μ (16 + j)) (vw_pic (b := (vb m)) (k := 16 + j) (by first | exact hv | assumption) (by omega)) ?_
          refine g_top (y := nI (nA μ (16 + j))) (mi_16 (by assumption) (by omega)) ?_
          have b9_33 : nA μ (16 + j) < 8 := mb_16 (by assumption) (by omega)
          refine g_ifN_le h dX0_willing_34 (by omega) (fun c34 => ?_) (fun c34 => ?_)
          ·
            refine g_iconst h dX0_willing_41 (by decide) ?_
            refine g_istore (L' := [(0, .ref (w.1 (mc m 0))), (1, .int (nI i)), (2, .int s), (3, .int (nI j)), (4, .int (nI 0))]) h dX0_willing_42 rfl (by decide) rfl ?_
            refine g_iload_n h dX0_willing_44 2 rfl ?_
            refine g_iload_n h dX0_willing_45 3 rfl ?_
            refine g_iload h dX0_willing_46 4 rfl ?_
            refine g_cspi (rest := []) h (c_with hW s j false ) lX5_with mX0_37 (Nat.lt_of_lt_of_le (by decide) (Nat.le_refl _)) (by decide) rfl rfl rfl dX0_willing_48 ?_
            refine g_istore_n (L' := [(0, .ref (w.1 (mc m 0))), (1, .int (nI i)), (2, .int (wth s j false)), (3, .int (nI j)), (4, .int (nI 0))]) h dX0_willing_51 rfl (by decide) rfl ?_
            refine g_iincN (b := 1) (L' := [(0, .ref (w.1 (mc m 0))), (1, .int (nI i)), (2, .int (wth s j false)), (3, .int (nI (j + 1))), (4, .int (nI 0))]) h dX0_willing_52 3 rfl rfl (by decide) (by decide) rfl ?_
            refine g_goto h dX0_willing_55 ?_
            exact g_sub [0, 1, 2, 3] rfl (ih4 (wth s j false) (j + 1) (by first | (simp [hs, mkS, orS, fN, or_n0, ful, lsO, bst, c9, c25, c34]; done) | (rw [hs]; exact mkS_w (by omega) (by simp [c9, c25, c34])) | fail | fail) (by omega) (by omega))
          ·
            refine g_iconst h dX0_willing_37 (by decide) ?_
            refine g_goto h dX0_willing_38 ?_
            refine g_istore (L' := [(0, .ref (w.1 (mc m 0))), (1, .int (nI i)), (2, .int s), (3, .int (nI j)), (4, .int (nI 1))]) h dX0_willing_42 rfl (by decide) rfl ?_
            refine g_iload_n h dX0_willing_44 2 rfl ?_
            refine g_iload_n h dX0_willing_45 3 rfl ?_
            refine g_iload h dX0_willing_46 4 rfl ?_
            refine g_cspi (rest := []) h (c_with hW s j true ) lX5_with mX0_37 (Nat.lt_of_lt_of_le (by decide) (Nat.le_refl _)) (by decide) rfl rfl rfl dX0_willing_48 ?_
            refine g_istore_n (L' := [(0, .ref (w.1 (mc m 0))), (1, .int (nI i)), (2, .int (wth s j true)), (3, .int (nI j)), (4, .int (nI 1))]) h dX0_willing_51 rfl (by decide) rfl ?_
            refine g_iincN (b := 1) (L' := [(0, .ref (w.1 (mc m 0))), (1, .int (nI i)), (2, .int (wth s j true)), (3, .int (nI (j + 1))), (4, .int (nI 1))]) h dX0_willing_52 3 rfl rfl (by decide) (by decide) rfl ?_
            refine g_goto h dX0_willing_55 ?_
            exact g_sub [0, 1, 2, 3] rfl (ih4 (wth s j true) (j + 1) (by first | (simp [hs, mkS, orS, fN, or_n0, ful, lsO, bst, c9, c25, c34]; done) | (rw [hs]; exact mkS_w (by omega) (by simp [c9, c25, c34])) | fail | fail) (by omega) (by omega))
  exact lp4 (_) (nI 0) 0 (by first | rfl | (simp [mkS, orS, fN, or_n0, ful, lsO, bst]; done) | fail | fail) (by omega) (Nat.lt_succ_self _)

set_option maxRecDepth 100000 in
set_option maxHeartbeats 4000000 in
theorem c_knownOf {l : Launch} {w : Wd} (hW : Wi w) {σ : Mem} (i : Nat) (z : Int32) (m : Nat) (μ : Nat → Int32) (hm : m < 6) (hv : vw (vb m) σ = μ) (hI : MI μ) (hi : i < 8) : MC l w qX0_knownOf 1 [.ref (w.1 (mc m 0)), .int (nI i), .int z] σ (some (.int (kno μ i z))) (fun σ' => σ' = σ) := by
  refine MC.of hW (by decide +kernel) (Nat.le_of_ble_eq_true rfl) (fun X h hQ hnm => ?_)
  have h : Fx X w cX0_knownOf 5 RX0 1 := h
  have hQ : Qx X w (some .int) (some (.int (kno μ i z))) (fun σ' => σ' = σ) := hQ
  have hN8 := mi_8 hI
  show G X w 5 0 [(0, .ref (w.1 (mc m 0))), (1, .int (nI i)), (2, .int z)] [] σ
  refine g_iconst h dX0_knownOf_0 (by decide) ?_
  refine g_istore_n (L' := [(0, .ref (w.1 (mc m 0))), (1, .int (nI i)), (2, .int z), (3, .int (nI 0))]) h dX0_knownOf_1 rfl (by decide) rfl ?_
  refine g_iconst h dX0_knownOf_2 (by decide) ?_
  refine g_istore (L' := [(0, .ref (w.1 (mc m 0))), (1, .int (nI i)), (2, .int z), (3, .int (nI 0)), (4, .int (nI 0))]) h dX0_knownOf_3 rfl (by decide) rfl ?_
  have lp5 : ∀ (k9 : Nat) (s : Int32) (j : Nat), (s = orS (fun j => if tb z j = true then μ (144 + (8 * i + j)) else nI 0) j) → (j ≤ nN μ) → nN μ - j < k9 → G X w 5 5 [(0, .ref (w.1 (mc m 0))), (1, .int (nI i)), (2, .int z), (3, .int s), (4, .int (nI j))] [] σ := by
    intro k9
    induction k9 with
    | zero => intro s j hs hj hm9; exact absurd hm9 (Nat.not_lt_zero _)
    | succ k9 ih5 =>
      intro s j hs hj hm5
      refine g_iload h dX0_knownOf_5 4 rfl ?_
      refine g_aload_n h dX0_knownOf_7 0 rfl ?_
      refine g_geti h dX0_knownOf_8 gX0_15 (sM_0 (m := m) (by omega)) rfl ?_
      refine g_top (y := μ 0) (vw_pic (b := (vb m)) (k := 0) (by first | exact hv | assumption) (by omega)) ?_
      refine g_top (y := nI (nN μ)) (mi_0 (by assumption)) ?_
      refine g_icmpN_ge h dX0_knownOf_11 (by omega) (by omega) (fun c11 => ?_) (fun c11 => ?_)
      ·
        refine g_iload_n h dX0_knownOf_46 3 rfl ?_
        exact g_iret h hQ dX0_knownOf_47 (congrArg (fun z => some (Value.int z)) (show (kno μ i z) = s by have e9 : j = nN μ := (by omega); subst e9; exact hs.symm)) rfl
      ·
        refine g_iload_n h dX0_knownOf_14 2 rfl ?_
        refine g_iload h dX0_knownOf_15 4 rfl ?_
        refine g_cspi (rest := []) h (c_has hW z j (by omega)) lX5_has mX0_30 (Nat.lt_of_lt_of_le (by decide) (Nat.le_refl _)) (by decide) rfl rfl rfl dX0_knownOf_17 ?_
        refine g_ifB_eq h dX0_knownOf_20 (fun c20 => ?_) (fun c20 => ?_)
        ·
          refine g_iincN (b := 1) (L' := [(0, .ref (w.1 (mc m 0))), (1, .int (nI i)), (2, .int z), (3, .int s), (4, .int (nI (j + 1)))]) h dX0_knownOf_40 4 rfl rfl (by decide) (by decide) rfl ?_
          refine g_goto h dX0_knownOf_43 ?_
          exact ih5 s (j + 1) (by first | rfl | (simp [hs, mkS, orS, fN, or_n0, ful, lsO, bst, c11, c20]; done) | (simp_all [mkS, orS, fN, or_n0, ful, lsO, bst]; done) | fail | fail) (by omega) (by omega)
        ·
          refine g_iload_n h dX0_knownOf_23 3 rfl ?_
          refine g_aload_n h dX0_knownOf_24 0 rfl ?_
          refine g_getr h dX0_knownOf_25 gX0_21 (sM_0 (m := m) (by omega)) rfl ?_
          refine g_getr h dX0_knownOf_28 gX0_53 (sM_4 (m := m) (by omega)) rfl ?_
          refine g_iload_n h dX0_knownOf_31 1 rfl ?_
          refine g_iload h dX0_knownOf_32 4 rfl ?_
          refine g_cspi (rest := [.ref (w.1 (mc m 6)), .int s]) h (c_at hW i j ) lX5_at mX0_56 (Nat.lt_of_lt_of_le (by decide) (Nat.le_refl _)) (by decide) rfl rfl rfl dX0_knownOf_34 ?_
          refine g_iald h dX0_knownOf_37 (sM_6 (m := m) (by omega)) (by omega) ?_
          refine g_top (y := μ (144 + (8 * i + j))) (vw_pic (b := (vb m)) (k := 144 + (8 * i + j)) (by first | exact hv | assumption) (by omega)) ?_
          refine g_ior h dX0_knownOf_38  ?_
          refine g_istore_n (L' := [(0, .ref (w.1 (mc m 0))), (1, .int (nI i)), (2, .int z), (3, .int (s ||| (μ (144 + (8 * i + j))))), (4, .int (nI j))]) h dX0_knownOf_39 rfl (by decide) rfl ?_
          refine g_iincN (b := 1) (L' := [(0, .ref (w.1 (mc m 0))), (1, .int (nI i)), (2, .int z), (3, .int (s ||| (μ (144 + (8 * i + j))))), (4, .int (nI (j + 1)))]) h dX0_knownOf_40 4 rfl rfl (by decide) (by decide) rfl ?_
          refine g_goto h dX0_knownOf_43 ?_
          exact ih5 (s ||| (μ (144 + (8 * i + j)))) (j + 1) (by first | rfl | (simp [hs, mkS, orS, fN, or_n0, ful, lsO, bst, c11, c20]; done) | (simp_all [mkS, orS, fN, or_n0, ful, lsO, bst]; done) | fail | fail) (by omega) (by omega)
  exact lp5 (_) (nI 0) 0 (by first | rfl | (simp [mkS, orS, fN, or_n0, ful, lsO, bst]; done) | fail | fail) (by omega) (Nat.lt_succ_self _)

set_option maxRecDepth 100000 in
set_option maxHeartbeats 4000000 in
theorem c_behind {l : Launch} {w : Wd} (hW : Wi w) {σ : Mem} (i : Nat) (m : Nat) (μ : Nat → Int32) (hm : m < 6) (hv : vw (vb m) σ = μ) (hI : MI μ) (hi : i < 8) : MC l w qX0_behind 2 [.ref (w.1 (mc m 0)), .int (nI i)] σ (some (.int (bhd μ i))) (fun σ' => σ' = σ) := by
  refine MC.of hW (by decide +kernel) (Nat.le_of_ble_eq_true rfl) (fun X h hQ hnm => ?_)
  have h : Fx X w cX0_behind 3 RX0 2 := h
  have hQ : Qx X w (some .int) (some (.int (bhd μ i))) (fun σ' => σ' = σ) := hQ
  have hN8 := mi_8 hI
  show G X w 3 0 [(0, .ref (w.1 (mc m 0))), (1, .int (nI i))] [] σ
  refine g_aload_n h dX0_behind_0 0 rfl ?_
  refine g_iload_n h dX0_behind_1 1 rfl ?_
  refine g_aload_n h dX0_behind_2 0 rfl ?_
  refine g_iload_n h dX0_behind_3 1 rfl ?_
  refine g_cspi (rest := [.int (nI i), .ref (w.1 (mc m 0))]) h (c_willing hW i m μ (by first | omega | decide | fail) (by first | exact hv | assumption | fail) (by assumption) (by omega)) lX0_willing mX0_41 (Nat.lt_of_lt_of_le (by decide) (Nat.le_refl _)) (by decide) rfl rfl rfl dX0_behind_4 ?_
  refine g_cspi (rest := []) h (c_knownOf hW i (wil μ i) m μ (by first | omega | decide | fail) (by first | exact hv | assumption | fail) (by assumption) (by omega)) lX0_knownOf mX0_45 (Nat.lt_of_lt_of_le (by decide) (Nat.le_refl _)) (by decide) rfl rfl rfl dX0_behind_7 ?_
  refine g_istore_n (L' := [(0, .ref (w.1 (mc m 0))), (1, .int (nI i)), (2, .int (kno μ i (wil μ i)))]) h dX0_behind_10 rfl (by decide) rfl ?_
  refine g_iload_n h dX0_behind_11 2 rfl ?_
  refine g_aload_n h dX0_behind_12 0 rfl ?_
  refine g_getr h dX0_behind_13 gX0_21 (sM_0 (m := m) (by omega)) rfl ?_
  refine g_getr h dX0_behind_16 gX0_25 (sM_4 (m := m) (by omega)) rfl ?_
  refine g_iload_n h dX0_behind_19 1 rfl ?_
  refine g_iald h dX0_behind_20 (sM_8 (m := m) (by omega)) (by omega) ?_
  refine g_top (y := μ (64 + i)) (vw_pic (b := (vb m)) (k := 64 + i) (by first | exact hv | assumption) (by omega)) ?_
  refine g_iconstv h dX0_behind_21 (v := (-1)) (by decide) ?_
  refine g_ixor h dX0_behind_22  ?_
  refine g_top (y := nots (μ (64 + i))) rfl ?_
  refine g_iand h dX0_behind_23  ?_
  refine g_iload_n h dX0_behind_24 1 rfl ?_
  refine g_cspi (rest := [.int ((kno μ i (wil μ i)) &&& (nots (μ (64 + i))))]) h (c_bit hW i ) lX5_bit mX0_49 (Nat.lt_of_lt_of_le (by decide) (Nat.le_refl _)) (by decide) rfl rfl rfl dX0_behind_25 ?_
  refine g_iconstv h dX0_behind_28 (v := (-1)) (by decide) ?_
  refine g_ixor h dX0_behind_29  ?_
  refine g_top (y := nots (bt1 i)) rfl ?_
  refine g_iand h dX0_behind_30  ?_
  exact g_iret h hQ dX0_behind_31 (congrArg (fun z => some (Value.int z)) (show (bhd μ i) = (((kno μ i (wil μ i)) &&& (nots (μ (64 + i)))) &&& (nots (bt1 i))) by rfl)) rfl

set_option maxRecDepth 100000 in
set_option maxHeartbeats 4000000 in
theorem c_onlyWays {l : Launch} {w : Wd} (hW : Wi w) {σ : Mem} (i : Nat) (z b : Int32) (m : Nat) (μ : Nat → Int32) (hm : m < 6) (hv : vw (vb m) σ = μ) (hI : MI μ) (hi : i < 8) : MC l w qX0_onlyWays 2 [.ref (w.1 (mc m 0)), .int (nI i), .int z, .int b] σ (some (.int (alo μ i z b))) (fun σ' => σ' = σ) := by
  refine MC.of hW (by decide +kernel) (Nat.le_of_ble_eq_true rfl) (fun X h hQ hnm => ?_)
  have h : Fx X w cX0_onlyWays 8 RX0 2 := h
  have hQ : Qx X w (some .int) (some (.int (alo μ i z b))) (fun σ' => σ' = σ) := hQ
  have hN8 := mi_8 hI
  show G X w 8 0 [(0, .ref (w.1 (mc m 0))), (1, .int (nI i)), (2, .int z), (3, .int b)] [] σ
  refine g_iconst h dX0_onlyWays_0 (by decide) ?_
  refine g_istore (L' := [(0, .ref (w.1 (mc m 0))), (1, .int (nI i)), (2, .int z), (3, .int b), (4, .int (nI 0))]) h dX0_onlyWays_1 rfl (by decide) rfl ?_
  refine g_iconst h dX0_onlyWays_3 (by decide) ?_
  refine g_istore (L' := [(0, .ref (w.1 (mc m 0))), (1, .int (nI i)), (2, .int z), (3, .int b), (4, .int (nI 0)), (5, .int (nI 0))]) h dX0_onlyWays_4 rfl (by decide) rfl ?_
  have lp6 : ∀ (k9 : Nat) (s : Int32) (j : Nat), (s = mkS (fun j => tb z j && !decide (μ (144 + (8 * i + j)) &&& b &&& nots (kno μ i (z &&& nots (bt1 j))) = 0)) j) → (j ≤ nN μ) → nN μ - j < k9 → G X w 8 6 [(0, .ref (w.1 (mc m 0))), (1, .int (nI i)), (2, .int z), (3, .int b), (4, .int s), (5, .int (nI j))] [] σ := by
    intro k9
    induction k9 with
    | zero => intro s j hs hj hm9; exact absurd hm9 (Nat.not_lt_zero _)
    | succ k9 ih6 =>
      intro s j hs hj hm6
      refine g_iload h dX0_onlyWays_6 5 rfl ?_
      refine g_aload_n h dX0_onlyWays_8 0 rfl ?_
      refine g_geti h dX0_onlyWays_9 gX0_15 (sM_0 (m := m) (by omega)) rfl ?_
      refine g_top (y := μ 0) (vw_pic (b := (vb m)) (k := 0) (by first | exact hv | assumption) (by omega)) ?_
      refine g_top (y := nI (nN μ)) (mi_0 (by assumption)) ?_
      refine g_icmpN_ge h dX0_onlyWays_12 (by omega) (by omega) (fun c12 => ?_) (fun c12 => ?_)
      ·
        refine g_iload h dX0_onlyWays_86 4 rfl ?_
        exact g_iret h hQ dX0_onlyWays_88 (congrArg (fun z => some (Value.int z)) (show (alo μ i z b) = s by have e9 : j = nN μ := (by omega); subst e9; exact hs.symm)) rfl
      ·
        refine g_iload_n h dX0_onlyWays_15 2 rfl ?_
        refine g_iload h dX0_onlyWays_16 5 rfl ?_
        refine g_cspi (rest := []) h (c_has hW z j (by omega)) lX5_has mX0_30 (Nat.lt_of_lt_of_le (by decide) (Nat.le_refl _)) (by decide) rfl rfl rfl dX0_onlyWays_18 ?_
        refine g_ifB_eq h dX0_onlyWays_21 (fun c21 => ?_) (fun c21 => ?_)
        ·
          refine g_iincN (b := 1) (L' := [(0, .ref (w.1 (mc m 0))), (1, .int (nI i)), (2, .int z), (3, .int b), (4, .int s), (5, .int (nI (j + 1)))]) h dX0_onlyWays_80 5 rfl rfl (by decide) (by decide) rfl ?_
          refine g_goto h dX0_onlyWays_83 ?_
          exact ih6 s (j + 1) (by first | (simp [hs, mkS, orS, fN, or_n0, ful, lsO, bst, c12, c21]; done) | (rw [hs]; exact mkS_w (by omega) (by simp [c12, c21])) | fail | fail) (by omega) (by omega)
        ·
          refine g_aload_n h dX0_onlyWays_24 0 rfl ?_
          refine g_iload_n h dX0_onlyWays_25 1 rfl ?_
          refine g_iload_n h dX0_onlyWays_26 2 rfl ?_
          refine g_iload h dX0_onlyWays_27 5 rfl ?_
          refine g_iconst h dX0_onlyWays_29 (by decide) ?_
          refine g_cspi (rest := [.int (nI i), .ref (w.1 (mc m 0))]) h (c_with hW z j false ) lX5_with mX0_37 (Nat.lt_of_lt_of_le (by decide) (Nat.le_refl _)) (by decide) rfl rfl rfl dX0_onlyWays_30 ?_
          refine g_top (y := (z &&& nots (bt1 j))) rfl ?_
          refine g_cspi (rest := []) h (c_knownOf hW i (z &&& nots (bt1 j)) m μ (by first | omega | decide | fail) (by first | exact hv | assumption | fail) (by assumption) (by omega)) lX0_knownOf mX0_45 (Nat.lt_of_lt_of_le (by decide) (Nat.le_refl _)) (by decide) rfl rfl rfl dX0_onlyWays_33 ?_
          refine g_istore (L' := [(0, .ref (w.1 (mc m 0))), (1, .int (nI i)), (2, .int z), (3, .int b), (4, .int s), (5, .int (nI j)), (6, .int (kno μ i (z &&& nots (bt1 j))))]) h dX0_onlyWays_36 rfl (by decide) rfl ?_
          refine g_aload_n h dX0_onlyWays_38 0 rfl ?_
          refine g_getr h dX0_onlyWays_39 gX0_21 (sM_0 (m := m) (by omega)) rfl ?_
          refine g_getr h dX0_onlyWays_42 gX0_53 (sM_4 (m := m) (by omega)) rfl ?_
          refine g_iload_n h dX0_onlyWays_45 1 rfl ?_
          refine g_iload h dX0_onlyWays_46 5 rfl ?_
          refine g_cspi (rest := [.ref (w.1 (mc m 6))]) h (c_at hW i j ) lX5_at mX0_56 (Nat.lt_of_lt_of_le (by decide) (Nat.le_refl _)) (by decide) rfl rfl rfl dX0_onlyWays_48 ?_
          refine g_iald h dX0_onlyWays_51 (sM_6 (m := m) (by omega)) (by omega) ?_
          refine g_top (y := μ (144 + (8 * i + j))) (vw_pic (b := (vb m)) (k := 144 + (8 * i + j)) (by first | exact hv | assumption) (by omega)) ?_
          refine g_iload_n h dX0_onlyWays_52 3 rfl ?_
          refine g_iand h dX0_onlyWays_53  ?_
          refine g_iload h dX0_onlyWays_54 6 rfl ?_
          refine g_iconstv h dX0_onlyWays_56 (v := (-1)) (by decide) ?_
          refine g_ixor h dX0_onlyWays_57  ?_
          refine g_top (y := nots (kno μ i (z &&& nots (bt1 j)))) rfl ?_
          refine g_iand h dX0_onlyWays_58  ?_
          refine g_istore (L' := [(0, .ref (w.1 (mc m 0))), (1, .int (nI i)), (2, .int z), (3, .int b), (4, .int s), (5, .int (nI j)), (6, .int (kno μ i (z &&& nots (bt1 j)))), (7, .int (((μ (144 + (8 * i + j))) &&& b) &&& (nots (kno μ i (z &&& nots (bt1 j))))))]) h dX0_onlyWays_59 rfl (by decide) rfl ?_
          refine g_iload h dX0_onlyWays_61 4 rfl ?_
          refine g_iload h dX0_onlyWays_63 5 rfl ?_
          refine g_iload h dX0_onlyWays_65 7 rfl ?_
          refine g_if_eq h dX0_onlyWays_67 (fun c67 => ?_) (fun c67 => ?_)
          ·
            refine g_iconst h dX0_onlyWays_74 (by decide) ?_
            refine g_cspi (rest := []) h (c_with hW s j false ) lX5_with mX0_37 (Nat.lt_of_lt_of_le (by decide) (Nat.le_refl _)) (by decide) rfl rfl rfl dX0_onlyWays_75 ?_
            refine g_istore (L' := [(0, .ref (w.1 (mc m 0))), (1, .int (nI i)), (2, .int z), (3, .int b), (4, .int (wth s j false)), (5, .int (nI j)), (6, .int (kno μ i (z &&& nots (bt1 j)))), (7, .int (((μ (144 + (8 * i + j))) &&& b) &&& (nots (kno μ i (z &&& nots (bt1 j))))))]) h dX0_onlyWays_78 rfl (by decide) rfl ?_
            refine g_iincN (b := 1) (L' := [(0, .ref (w.1 (mc m 0))), (1, .int (nI i)), (2, .int z), (3, .int b), (4, .int (wth s j false)), (5, .int (nI (j + 1))), (6, .int (kno μ i (z &&& nots (bt1 j)))), (7, .int (((μ (144 + (8 * i + j))) &&& b) &&& (nots (kno μ i (z &&& nots (bt1 j))))))]) h dX0_onlyWays_80 5 rfl rfl (by decide) (by decide) rfl ?_
            refine g_goto h dX0_onlyWays_83 ?_
            exact g_sub [0, 1, 2, 3, 4, 5] rfl (ih6 (wth s j false) (j + 1) (by first | (simp [hs, mkS, orS, fN, or_n0, ful, lsO, bst, c12, c21, c67]; done) | (rw [hs]; exact mkS_w (by omega) (by simp [c12, c21, c67])) | fail | fail) (by omega) (by omega))
          ·
            refine g_iconst h dX0_onlyWays_70 (by decide) ?_
            refine g_goto h dX0_onlyWays_71 ?_
            refine g_cspi (rest := []) h (c_with hW s j true ) lX5_with mX0_37 (Nat.lt_of_lt_of_le (by decide) (Nat.le_refl _)) (by decide) rfl rfl rfl dX0_onlyWays_75 ?_
            refine g_istore (L' := [(0, .ref (w.1 (mc m 0))), (1, .int (nI i)), (2, .int z), (3, .int b), (4, .int (wth s j true)), (5, .int (nI j)), (6, .int (kno μ i (z &&& nots (bt1 j)))), (7, .int (((μ (144 + (8 * i + j))) &&& b) &&& (nots (kno μ i (z &&& nots (bt1 j))))))]) h dX0_onlyWays_78 rfl (by decide) rfl ?_
            refine g_iincN (b := 1) (L' := [(0, .ref (w.1 (mc m 0))), (1, .int (nI i)), (2, .int z), (3, .int b), (4, .int (wth s j true)), (5, .int (nI (j + 1))), (6, .int (kno μ i (z &&& nots (bt1 j)))), (7, .int (((μ (144 + (8 * i + j))) &&& b) &&& (nots (kno μ i (z &&& nots (bt1 j))))))]) h dX0_onlyWays_80 5 rfl rfl (by decide) (by decide) rfl ?_
            refine g_goto h dX0_onlyWays_83 ?_
            exact g_sub [0, 1, 2, 3, 4, 5] rfl (ih6 (wth s j true) (j + 1) (by first | (simp [hs, mkS, orS, fN, or_n0, ful, lsO, bst, c12, c21, c67]; done) | (rw [hs]; exact mkS_w (by omega) (by simp [c12, c21, c67])) | fail | fail) (by omega) (by omega))
  exact lp6 (_) (nI 0) 0 (by first | rfl | (simp [mkS, orS, fN, or_n0, ful, lsO, bst]; done) | fail | fail) (by omega) (Nat.lt_succ_self _)

set_option maxRecDepth 100000 in
set_option maxHeartbeats 4000000 in
theorem c_isFewer {l : Launch} {w : Wd} (hW : Wi w) {σ : Mem} (a b : Nat) (ha : a < 256) (hb : b < 256) : MC l w qX0_isFewer 1 [.int (nI a), .int (nI b)] σ (some (.int (b2i (few a b)))) (fun σ' => σ' = σ) := by
  refine MC.of hW (by decide +kernel) (Nat.le_of_ble_eq_true rfl) (fun X h hQ hnm => ?_)
  have h : Fx X w cX0_isFewer 3 RX0 1 := h
  have hQ : Qx X w (some .boolean) (some (.int (b2i (few a b)))) (fun σ' => σ' = σ) := hQ
  show G X w 3 0 [(0, .int (nI a)), (1, .int (nI b))] [] σ
  refine g_iload_n h dX0_isFewer_0 0 rfl ?_
  refine g_cspi (rest := []) h (j_bcN hW a (by omega)) lJ6_bitCount_0f7a4 mX0_66 (Nat.lt_of_lt_of_le (by decide) (Nat.le_refl _)) (by decide) rfl rfl rfl dX0_isFewer_1 ?_
  have p9_1 := pc_le (nI a)
  refine g_iload_n h dX0_isFewer_4 1 rfl ?_
  refine g_cspi (rest := [.int (nI (pc (nI a)))]) h (j_bcN hW b (by omega)) lJ6_bitCount_0f7a4 mX0_66 (Nat.lt_of_lt_of_le (by decide) (Nat.le_refl _)) (by decide) rfl rfl rfl dX0_isFewer_5 ?_
  have p9_5 := pc_le (nI b)
  refine g_isub h dX0_isFewer_8  ?_
  refine g_istore_n (L' := [(0, .int (nI a)), (1, .int (nI b)), (2, .int ((nI (pc (nI a))) - (nI (pc (nI b)))))]) h dX0_isFewer_9 rfl (by decide) rfl ?_
  refine g_iload_n h dX0_isFewer_10 2 rfl ?_
  refine g_if_lt h dX0_isFewer_11 (fun c11 => ?_) (fun c11 => ?_)
  ·
    have d11 := (nI_sub_lt (by omega) (by omega)).mp c11
    refine g_iconst h dX0_isFewer_23 (by decide) ?_
    refine g_goto h dX0_isFewer_24 ?_
    exact g_zret h hQ dX0_isFewer_28 (show narrow .boolean (.int (b2i true)) = .int (b2i true) from narrow_b2i _) (congrArg (fun z => some (Value.int (b2i z))) (show (few a b) = true by unfold few; simp; omega)) rfl
  ·
    have d11 : ¬ pc (nI a) < pc (nI b) := fun z => c11 ((nI_sub_lt (a := pc (nI a)) (b := pc (nI b)) (by omega) (by omega)).mpr z)
    refine g_iload_n h dX0_isFewer_14 2 rfl ?_
    refine g_if_ne h dX0_isFewer_15 (fun c15 => ?_) (fun c15 => ?_)
    ·
      have d15 : ¬ pc (nI a) = pc (nI b) := fun z => c15 ((nI_sub_eq (a := pc (nI a)) (b := pc (nI b)) (by omega) (by omega)).mpr z)
      refine g_iconst h dX0_isFewer_27 (by decide) ?_
      exact g_zret h hQ dX0_isFewer_28 (show narrow .boolean (.int (b2i false)) = .int (b2i false) from narrow_b2i _) (congrArg (fun z => some (Value.int (b2i z))) (show (few a b) = false by unfold few; simp; omega)) rfl
    ·
      have d15 := (nI_sub_eq (a := pc (nI a)) (b := pc (nI b)) (by omega) (by omega)).mp c15
      refine g_iload_n h dX0_isFewer_18 0 rfl ?_
      refine g_iload_n h dX0_isFewer_19 1 rfl ?_
      refine g_icmpN_ge h dX0_isFewer_20 (by omega) (by omega) (fun c20 => ?_) (fun c20 => ?_)
      ·
        refine g_iconst h dX0_isFewer_27 (by decide) ?_
        exact g_zret h hQ dX0_isFewer_28 (show narrow .boolean (.int (b2i false)) = .int (b2i false) from narrow_b2i _) (congrArg (fun z => some (Value.int (b2i z))) (show (few a b) = false by unfold few; simp; omega)) rfl
      ·
        refine g_iconst h dX0_isFewer_23 (by decide) ?_
        refine g_goto h dX0_isFewer_24 ?_
        exact g_zret h hQ dX0_isFewer_28 (show narrow .boolean (.int (b2i true)) = .int (b2i true) from narrow_b2i _) (congrArg (fun z => some (Value.int (b2i z))) (show (few a b) = true by unfold few; simp; omega)) rfl

set_option maxRecDepth 100000 in
set_option maxHeartbeats 4000000 in
theorem c_fewest {l : Launch} {w : Wd} (hW : Wi w) {σ : Mem} (i : Nat) (m : Nat) (μ : Nat → Int32) (hm : m < 6) (hv : vw (vb m) σ = μ) (hI : MI μ) (hi : i < 8) : MC l w qX0_fewest 3 [.ref (w.1 (mc m 0)), .int (nI i)] σ (some (.int (lst μ i))) (fun σ' => σ' = σ) := by
  refine MC.of hW (by decide +kernel) (Nat.le_of_ble_eq_true rfl) (fun X h hQ hnm => ?_)
  have h : Fx X w cX0_fewest 7 RX0 3 := h
  have hQ : Qx X w (some .int) (some (.int (lst μ i))) (fun σ' => σ' = σ) := hQ
  have hN8 := mi_8 hI
  obtain ⟨wn, hwn, ew⟩ := s8_ex (sb_wil (i := i) hI)
  show G X w 7 0 [(0, .ref (w.1 (mc m 0))), (1, .int (nI i))] [] σ
  refine g_aload_n h dX0_fewest_0 0 rfl ?_
  refine g_iload_n h dX0_fewest_1 1 rfl ?_
  refine g_cspi (rest := []) h (c_willing hW i m μ (by first | omega | decide | fail) (by first | exact hv | assumption | fail) (by assumption) (by omega)) lX0_willing mX0_41 (Nat.lt_of_lt_of_le (by decide) (Nat.le_refl _)) (by decide) rfl rfl rfl dX0_fewest_2 ?_
  refine g_istore_n (L' := [(0, .ref (w.1 (mc m 0))), (1, .int (nI i)), (2, .int (wil μ i))]) h dX0_fewest_5 rfl (by decide) rfl ?_
  refine g_aload_n h dX0_fewest_6 0 rfl ?_
  refine g_iload_n h dX0_fewest_7 1 rfl ?_
  refine g_cspi (rest := []) h (c_behind hW i m μ (by first | omega | decide | fail) (by first | exact hv | assumption | fail) (by assumption) (by omega)) lX0_behind mX0_60 (Nat.lt_of_lt_of_le (by decide) (Nat.le_refl _)) (by decide) rfl rfl rfl dX0_fewest_8 ?_
  refine g_istore_n (L' := [(0, .ref (w.1 (mc m 0))), (1, .int (nI i)), (2, .int (wil μ i)), (3, .int (bhd μ i))]) h dX0_fewest_11 rfl (by decide) rfl ?_
  refine g_iload_n h dX0_fewest_12 2 rfl ?_
  refine g_top (y := (nI wn)) ew ?_
  refine g_istore (L' := [(0, .ref (w.1 (mc m 0))), (1, .int (nI i)), (2, .int (wil μ i)), (3, .int (bhd μ i)), (4, .int (nI wn))]) h dX0_fewest_13 rfl (by decide) rfl ?_
  refine g_iconst h dX0_fewest_15 (by decide) ?_
  refine g_istore (L' := [(0, .ref (w.1 (mc m 0))), (1, .int (nI i)), (2, .int (wil μ i)), (3, .int (bhd μ i)), (4, .int (nI wn)), (5, .int (nI 0))]) h dX0_fewest_16 rfl (by decide) rfl ?_
  have lp18 : ∀ (k9 : Nat) (b : Nat) (j : Nat), (lsC μ i wn j = b) → (j ≤ 256) → (b < 256) → 256 - j < k9 → G X w 7 18 [(0, .ref (w.1 (mc m 0))), (1, .int (nI i)), (2, .int (wil μ i)), (3, .int (bhd μ i)), (4, .int (nI b)), (5, .int (nI j))] [] σ := by
    intro k9
    induction k9 with
    | zero => intro b j ho hj hb hm9; exact absurd hm9 (Nat.not_lt_zero _)
    | succ k9 ih18 =>
      intro b j ho hj hb hm18
      refine g_iload h dX0_fewest_18 5 rfl ?_
      refine g_sipush h dX0_fewest_20 (by decide) ?_
      refine g_icmpN_ge h dX0_fewest_23 (by omega) (by omega) (fun c23 => ?_) (fun c23 => ?_)
      ·
        refine g_iload h dX0_fewest_81 4 rfl ?_
        exact g_iret h hQ dX0_fewest_83 (congrArg (fun z => some (Value.int z)) (show (lst μ i) = (nI b) by have e9 : j = 256 := (by omega); subst e9; rw [← ho]; exact lsC_end ew hwn)) rfl
      ·
        refine g_iload h dX0_fewest_26 5 rfl ?_
        refine g_iload_n h dX0_fewest_28 2 rfl ?_
        refine g_iconstv h dX0_fewest_29 (v := (-1)) (by decide) ?_
        refine g_ixor h dX0_fewest_30  ?_
        refine g_top (y := nots (wil μ i)) rfl ?_
        refine g_iand h dX0_fewest_31  ?_
        refine g_if_ne h dX0_fewest_32 (fun c32 => ?_) (fun c32 => ?_)
        ·
          refine g_iconst h dX0_fewest_53 (by decide) ?_
          refine g_istore (L' := [(0, .ref (w.1 (mc m 0))), (1, .int (nI i)), (2, .int (wil μ i)), (3, .int (bhd μ i)), (4, .int (nI b)), (5, .int (nI j)), (6, .int (nI 0))]) h dX0_fewest_54 rfl (by decide) rfl ?_
          refine g_iload h dX0_fewest_56 6 rfl ?_
          refine g_ifN_eq h dX0_fewest_58 (by decide) (fun c58 => ?_) (fun c58 => absurd c58 (by decide))
          refine g_iincN (b := 1) (L' := [(0, .ref (w.1 (mc m 0))), (1, .int (nI i)), (2, .int (wil μ i)), (3, .int (bhd μ i)), (4, .int (nI b)), (5, .int (nI (j + 1))), (6, .int (nI 0))]) h dX0_fewest_75 5 rfl rfl (by decide) (by decide) rfl ?_
          refine g_goto h dX0_fewest_78 ?_
          exact g_sub [0, 1, 2, 3, 4, 5] rfl (ih18 b (j + 1) (by first | (simp [lsC, srv, ho, c23, c32]; done) | fail | fail) (by omega) (by omega) (by omega))
        ·
          refine g_iload_n h dX0_fewest_35 3 rfl ?_
          refine g_aload_n h dX0_fewest_36 0 rfl ?_
          refine g_iload_n h dX0_fewest_37 1 rfl ?_
          refine g_iload h dX0_fewest_38 5 rfl ?_
          refine g_cspi (rest := [.int (bhd μ i)]) h (c_knownOf hW i (nI j) m μ (by first | omega | decide | fail) (by first | exact hv | assumption | fail) (by assumption) (by omega)) lX0_knownOf mX0_45 (Nat.lt_of_lt_of_le (by decide) (Nat.le_refl _)) (by decide) rfl rfl rfl dX0_fewest_40 ?_
          refine g_iconstv h dX0_fewest_43 (v := (-1)) (by decide) ?_
          refine g_ixor h dX0_fewest_44  ?_
          refine g_top (y := nots (kno μ i (nI j))) rfl ?_
          refine g_iand h dX0_fewest_45  ?_
          refine g_if_ne h dX0_fewest_46 (fun c46 => ?_) (fun c46 => ?_)
          ·
            refine g_iconst h dX0_fewest_53 (by decide) ?_
            refine g_istore (L' := [(0, .ref (w.1 (mc m 0))), (1, .int (nI i)), (2, .int (wil μ i)), (3, .int (bhd μ i)), (4, .int (nI b)), (5, .int (nI j)), (6, .int (nI 0))]) h dX0_fewest_54 rfl (by decide) rfl ?_
            refine g_iload h dX0_fewest_56 6 rfl ?_
            refine g_ifN_eq h dX0_fewest_58 (by decide) (fun c58 => ?_) (fun c58 => absurd c58 (by decide))
            refine g_iincN (b := 1) (L' := [(0, .ref (w.1 (mc m 0))), (1, .int (nI i)), (2, .int (wil μ i)), (3, .int (bhd μ i)), (4, .int (nI b)), (5, .int (nI (j + 1))), (6, .int (nI 0))]) h dX0_fewest_75 5 rfl rfl (by decide) (by decide) rfl ?_
            refine g_goto h dX0_fewest_78 ?_
            exact g_sub [0, 1, 2, 3, 4, 5] rfl (ih18 b (j + 1) (by first | (simp [lsC, srv, ho, c23, c32, c46]; done) | fail | fail) (by omega) (by omega) (by omega))
          ·
            refine g_iconst h dX0_fewest_49 (by decide) ?_
            refine g_goto h dX0_fewest_50 ?_
            refine g_istore (L' := [(0, .ref (w.1 (mc m 0))), (1, .int (nI i)), (2, .int (wil μ i)), (3, .int (bhd μ i)), (4, .int (nI b)), (5, .int (nI j)), (6, .int (nI 1))]) h dX0_fewest_54 rfl (by decide) rfl ?_
            refine g_iload h dX0_fewest_56 6 rfl ?_
            refine g_ifN_eq h dX0_fewest_58 (by decide) (fun c58 => absurd c58 (by decide)) (fun c58 => ?_)
            refine g_iload h dX0_fewest_61 5 rfl ?_
            refine g_iload h dX0_fewest_63 4 rfl ?_
            refine g_cspi (rest := []) h (c_isFewer hW j b (by omega) (by omega)) lX0_isFewer mX0_63 (Nat.lt_of_lt_of_le (by decide) (Nat.le_refl _)) (by decide) rfl rfl rfl dX0_fewest_65 ?_
            refine g_ifB_eq h dX0_fewest_68 (fun c68 => ?_) (fun c68 => ?_)
            ·
              refine g_iincN (b := 1) (L' := [(0, .ref (w.1 (mc m 0))), (1, .int (nI i)), (2, .int (wil μ i)), (3, .int (bhd μ i)), (4, .int (nI b)), (5, .int (nI (j + 1))), (6, .int (nI 1))]) h dX0_fewest_75 5 rfl rfl (by decide) (by decide) rfl ?_
              refine g_goto h dX0_fewest_78 ?_
              exact g_sub [0, 1, 2, 3, 4, 5] rfl (ih18 b (j + 1) (by first | (simp [lsC, srv, ho, c23, c32, c46, c68]; done) | fail | fail) (by omega) (by omega) (by omega))
            ·
              refine g_iload h dX0_fewest_71 5 rfl ?_
              refine g_istore (L' := [(0, .ref (w.1 (mc m 0))), (1, .int (nI i)), (2, .int (wil μ i)), (3, .int (bhd μ i)), (4, .int (nI j)), (5, .int (nI j)), (6, .int (nI 1))]) h dX0_fewest_73 rfl (by decide) rfl ?_
              refine g_iincN (b := 1) (L' := [(0, .ref (w.1 (mc m 0))), (1, .int (nI i)), (2, .int (wil μ i)), (3, .int (bhd μ i)), (4, .int (nI j)), (5, .int (nI (j + 1))), (6, .int (nI 1))]) h dX0_fewest_75 5 rfl rfl (by decide) (by decide) rfl ?_
              refine g_goto h dX0_fewest_78 ?_
              exact g_sub [0, 1, 2, 3, 4, 5] rfl (ih18 j (j + 1) (by first | (simp [lsC, srv, ho, c23, c32, c46, c68]; done) | fail | fail) (by omega) (by omega) (by omega))
  exact lp18 (_) wn 0 (by rfl) (by omega) (by omega) (Nat.lt_succ_self _)

set_option maxRecDepth 100000 in
set_option maxHeartbeats 4000000 in
theorem c_best {l : Launch} {w : Wd} (hW : Wi w) {σ : Mem} (i : Nat) (z left : Int32) (m : Nat) (μ : Nat → Int32) (hm : m < 6) (hv : vw (vb m) σ = μ) (hI : MI μ) (hi : i < 8) : MC l w qX0_best 1 [.ref (w.1 (mc m 0)), .int (nI i), .int z, .int left] σ (some (.int (oI (bst μ i z left (nN μ))))) (fun σ' => σ' = σ) := by
  refine MC.of hW (by decide +kernel) (Nat.le_of_ble_eq_true rfl) (fun X h hQ hnm => ?_)
  have h : Fx X w cX0_best 9 RX0 1 := h
  have hQ : Qx X w (some .int) (some (.int (oI (bst μ i z left (nN μ))))) (fun σ' => σ' = σ) := hQ
  have hN8 := mi_8 hI
  show G X w 9 0 [(0, .ref (w.1 (mc m 0))), (1, .int (nI i)), (2, .int z), (3, .int left)] [] σ
  refine g_iconstv h dX0_best_0 (v := (-1)) (by decide) ?_
  refine g_istore (L' := [(0, .ref (w.1 (mc m 0))), (1, .int (nI i)), (2, .int z), (3, .int left), (4, .int (-1))]) h dX0_best_1 rfl (by decide) rfl ?_
  refine g_iconstv h dX0_best_3 (v := (-1)) (by decide) ?_
  refine g_istore (L' := [(0, .ref (w.1 (mc m 0))), (1, .int (nI i)), (2, .int z), (3, .int left), (4, .int (-1)), (5, .int (-1))]) h dX0_best_4 rfl (by decide) rfl ?_
  refine g_iconst h dX0_best_6 (by decide) ?_
  refine g_istore (L' := [(0, .ref (w.1 (mc m 0))), (1, .int (nI i)), (2, .int z), (3, .int left), (4, .int (-1)), (5, .int (-1)), (6, .int (nI 0))]) h dX0_best_7 rfl (by decide) rfl ?_
  have lp9 : ∀ (k9 : Nat) (o : Option Nat) (j : Nat), (bst μ i z left j = o) → (j ≤ nN μ) → (∀ b, o = some b → b < 8) → nN μ - j < k9 → G X w 9 9 [(0, .ref (w.1 (mc m 0))), (1, .int (nI i)), (2, .int z), (3, .int left), (4, .int (oI o)), (5, .int (moI μ i left o)), (6, .int (nI j))] [] σ := by
    intro k9
    induction k9 with
    | zero => intro o j ho hj hb hm9; exact absurd hm9 (Nat.not_lt_zero _)
    | succ k9 ih9 =>
      intro o j ho hj hb hm9
      refine g_iload h dX0_best_9 6 rfl ?_
      refine g_aload_n h dX0_best_11 0 rfl ?_
      refine g_geti h dX0_best_12 gX0_15 (sM_0 (m := m) (by omega)) rfl ?_
      refine g_top (y := μ 0) (vw_pic (b := (vb m)) (k := 0) (by first | exact hv | assumption) (by omega)) ?_
      refine g_top (y := nI (nN μ)) (mi_0 (by assumption)) ?_
      refine g_icmpN_ge h dX0_best_15 (by omega) (by omega) (fun c15 => ?_) (fun c15 => ?_)
      ·
        refine g_iload h dX0_best_100 4 rfl ?_
        exact g_iret h hQ dX0_best_102 (congrArg (fun z => some (Value.int z)) (show (oI (bst μ i z left (nN μ))) = (oI o) by have e9 : j = nN μ := (by omega); subst e9; rw [ho])) rfl
      ·
        refine g_aload_n h dX0_best_18 0 rfl ?_
        refine g_getr h dX0_best_19 gX0_21 (sM_0 (m := m) (by omega)) rfl ?_
        refine g_getr h dX0_best_22 gX0_53 (sM_4 (m := m) (by omega)) rfl ?_
        refine g_iload_n h dX0_best_25 1 rfl ?_
        refine g_iload h dX0_best_26 6 rfl ?_
        refine g_cspi (rest := [.ref (w.1 (mc m 6))]) h (c_at hW i j ) lX5_at mX0_56 (Nat.lt_of_lt_of_le (by decide) (Nat.le_refl _)) (by decide) rfl rfl rfl dX0_best_28 ?_
        refine g_iald h dX0_best_31 (sM_6 (m := m) (by omega)) (by omega) ?_
        refine g_top (y := μ (144 + (8 * i + j))) (vw_pic (b := (vb m)) (k := 144 + (8 * i + j)) (by first | exact hv | assumption) (by omega)) ?_
        have kk := ms_kno hI (k := 8 * i + j) (by omega)
        refine g_istore (L' := [(0, .ref (w.1 (mc m 0))), (1, .int (nI i)), (2, .int z), (3, .int left), (4, .int (oI o)), (5, .int (moI μ i left o)), (6, .int (nI j)), (7, .int (μ (144 + (8 * i + j))))]) h dX0_best_32 rfl (by decide) rfl ?_
        refine g_iload_n h dX0_best_34 2 rfl ?_
        refine g_iload h dX0_best_35 6 rfl ?_
        refine g_cspi (rest := []) h (c_has hW z j (by omega)) lX5_has mX0_30 (Nat.lt_of_lt_of_le (by decide) (Nat.le_refl _)) (by decide) rfl rfl rfl dX0_best_37 ?_
        refine g_ifB_eq h dX0_best_40 (fun c40 => ?_) (fun c40 => ?_)
        ·
          refine g_iincN (b := 1) (L' := [(0, .ref (w.1 (mc m 0))), (1, .int (nI i)), (2, .int z), (3, .int left), (4, .int (oI o)), (5, .int (moI μ i left o)), (6, .int (nI (j + 1))), (7, .int (μ (144 + (8 * i + j))))]) h dX0_best_94 6 rfl rfl (by decide) (by decide) rfl ?_
          refine g_goto h dX0_best_97 ?_
          exact g_sub [0, 1, 2, 3, 4, 5, 6] rfl (ih9 o (j + 1) (by first | (simp [bst, ho, c15, c40]; done) | (simp [bst, ho, d83, c15, c40, c47]; done) | fail | fail) (by omega) (by first | assumption | (intro b e; cases e; omega) | fail | fail) (by omega))
        ·
          refine g_iload h dX0_best_43 7 rfl ?_
          refine g_iload_n h dX0_best_45 3 rfl ?_
          refine g_iand h dX0_best_46  ?_
          refine g_if_eq h dX0_best_47 (fun c47 => ?_) (fun c47 => ?_)
          ·
            refine g_iincN (b := 1) (L' := [(0, .ref (w.1 (mc m 0))), (1, .int (nI i)), (2, .int z), (3, .int left), (4, .int (oI o)), (5, .int (moI μ i left o)), (6, .int (nI (j + 1))), (7, .int (μ (144 + (8 * i + j))))]) h dX0_best_94 6 rfl rfl (by decide) (by decide) rfl ?_
            refine g_goto h dX0_best_97 ?_
            exact g_sub [0, 1, 2, 3, 4, 5, 6] rfl (ih9 o (j + 1) (by first | (simp [bst, ho, c15, c40, c47]; done) | (simp [bst, ho, d83, c15, c40, c47]; done) | fail | fail) (by omega) (by first | assumption | (intro b e; cases e; omega) | fail | fail) (by omega))
          ·
            refine g_aload_n h dX0_best_50 0 rfl ?_
            refine g_getr h dX0_best_51 gX0_34 (sM_0 (m := m) (by omega)) rfl ?_
            refine g_iload h dX0_best_54 6 rfl ?_
            refine g_iald h dX0_best_56 (sM_1 (m := m) (by omega)) (by omega) ?_
            refine g_top (y := μ (16 + j)) (vw_pic (b := (vb m)) (k := 16 + j) (by first | exact hv | assumption) (by omega)) ?_
            refine g_top (y := nI (nA μ (16 + j))) (mi_16 (by assumption) (by omega)) ?_
            have b9_56 : nA μ (16 + j) < 8 := mb_16 (by assumption) (by omega)
            refine g_bipush h dX0_best_57 (by decide) ?_
            refine g_imulN h dX0_best_59  ?_
            refine g_iload h dX0_best_60 7 rfl ?_
            refine g_iload_n h dX0_best_62 3 rfl ?_
            refine g_iand h dX0_best_63  ?_
            refine g_cspi (rest := [.int (nI ((nA μ (16 + j)) * 16))]) h (j_bc hW ((μ (144 + (8 * i + j))) &&& left) (by first | assumption | exact sb_andl (by assumption) | fail)) lJ6_bitCount_0f7a4 mX0_66 (Nat.lt_of_lt_of_le (by decide) (Nat.le_refl _)) (by decide) rfl rfl rfl dX0_best_64 ?_
            have p9_64 := pc_le ((μ (144 + (8 * i + j))) &&& left)
            refine g_iaddN h dX0_best_67  ?_
            refine g_bipush h dX0_best_68 (by decide) ?_
            refine g_imulN h dX0_best_70  ?_
            refine g_iload h dX0_best_71 7 rfl ?_
            refine g_cspi (rest := [.int (nI (((nA μ (16 + j)) * 16 + (pc ((μ (144 + (8 * i + j))) &&& left))) * 16))]) h (j_bc hW (μ (144 + (8 * i + j))) (by first | assumption | exact sb_andl (by assumption) | fail)) lJ6_bitCount_0f7a4 mX0_66 (Nat.lt_of_lt_of_le (by decide) (Nat.le_refl _)) (by decide) rfl rfl rfl dX0_best_73 ?_
            have p9_73 := pc_le (μ (144 + (8 * i + j)))
            refine g_iaddN h dX0_best_76  ?_
            refine g_istore (L' := [(0, .ref (w.1 (mc m 0))), (1, .int (nI i)), (2, .int z), (3, .int left), (4, .int (oI o)), (5, .int (moI μ i left o)), (6, .int (nI j)), (7, .int (μ (144 + (8 * i + j)))), (8, .int (nI (((nA μ (16 + j)) * 16 + (pc ((μ (144 + (8 * i + j))) &&& left))) * 16 + (pc (μ (144 + (8 * i + j)))))))]) h dX0_best_77 rfl (by decide) rfl ?_
            rcases o with _ | b
            ·
              show G X w 9 79 [(0, .ref (w.1 (mc m 0))), (1, .int (nI i)), (2, .int z), (3, .int left), (4, .int (-1)), (5, .int (-1)), (6, .int (nI j)), (7, .int (μ (144 + (8 * i + j)))), (8, .int (nI (((nA μ (16 + j)) * 16 + (pc ((μ (144 + (8 * i + j))) &&& left))) * 16 + (pc (μ (144 + (8 * i + j)))))))] [] σ
              refine g_iload h dX0_best_79 8 rfl ?_
              refine g_iload h dX0_best_81 5 rfl ?_
              refine g_icmp_le h dX0_best_83 (fun c83 => (by exfalso; first | exact c83 rfl | exact nI_ne_m1 (by omega) c83 | exact c83 (nI_ne_m1 (by omega)) | exact nI_le_m1 (by omega) c83 | exact c83 (m1_lt (by omega)) | exact absurd c83 (by decide))) (fun c83 => ?_)
              refine g_iload h dX0_best_86 6 rfl ?_
              refine g_istore (L' := [(0, .ref (w.1 (mc m 0))), (1, .int (nI i)), (2, .int z), (3, .int left), (4, .int (nI j)), (5, .int (-1)), (6, .int (nI j)), (7, .int (μ (144 + (8 * i + j)))), (8, .int (nI (((nA μ (16 + j)) * 16 + (pc ((μ (144 + (8 * i + j))) &&& left))) * 16 + (pc (μ (144 + (8 * i + j)))))))]) h dX0_best_88 rfl (by decide) rfl ?_
              refine g_iload h dX0_best_90 8 rfl ?_
              refine g_istore (L' := [(0, .ref (w.1 (mc m 0))), (1, .int (nI i)), (2, .int z), (3, .int left), (4, .int (nI j)), (5, .int (nI (((nA μ (16 + j)) * 16 + (pc ((μ (144 + (8 * i + j))) &&& left))) * 16 + (pc (μ (144 + (8 * i + j))))))), (6, .int (nI j)), (7, .int (μ (144 + (8 * i + j)))), (8, .int (nI (((nA μ (16 + j)) * 16 + (pc ((μ (144 + (8 * i + j))) &&& left))) * 16 + (pc (μ (144 + (8 * i + j)))))))]) h dX0_best_92 rfl (by decide) rfl ?_
              refine g_iincN (b := 1) (L' := [(0, .ref (w.1 (mc m 0))), (1, .int (nI i)), (2, .int z), (3, .int left), (4, .int (nI j)), (5, .int (nI (((nA μ (16 + j)) * 16 + (pc ((μ (144 + (8 * i + j))) &&& left))) * 16 + (pc (μ (144 + (8 * i + j))))))), (6, .int (nI (j + 1))), (7, .int (μ (144 + (8 * i + j)))), (8, .int (nI (((nA μ (16 + j)) * 16 + (pc ((μ (144 + (8 * i + j))) &&& left))) * 16 + (pc (μ (144 + (8 * i + j)))))))]) h dX0_best_94 6 rfl rfl (by decide) (by decide) rfl ?_
              refine g_goto h dX0_best_97 ?_
              exact g_sub [0, 1, 2, 3, 4, 5, 6] rfl (ih9 (some j) (j + 1) (by first | (simp [bst, ho, c15, c40, c47]; done) | (simp [bst, ho, d83, c15, c40, c47]; done) | fail | fail) (by omega) (by first | assumption | (intro b e; cases e; omega) | fail | fail) (by omega))
            ·
              have hb9 := hb b rfl
              have hr9 := rnk_lt (i := i) (left := left) hI hb9
              show G X w 9 79 [(0, .ref (w.1 (mc m 0))), (1, .int (nI i)), (2, .int z), (3, .int left), (4, .int (nI b)), (5, .int (nI (rnk μ i left b))), (6, .int (nI j)), (7, .int (μ (144 + (8 * i + j)))), (8, .int (nI (((nA μ (16 + j)) * 16 + (pc ((μ (144 + (8 * i + j))) &&& left))) * 16 + (pc (μ (144 + (8 * i + j)))))))] [] σ
              refine g_iload h dX0_best_79 8 rfl ?_
              refine g_iload h dX0_best_81 5 rfl ?_
              refine g_icmpN_le h dX0_best_83 (by omega) (by omega) (fun c83 => ?_) (fun c83 => ?_)
              ·
                have d83 : ¬ rnk μ i left b < rnk μ i left j := by show ¬ _ < (nA μ (16 + j) * 16 + pc (μ (144 + (8 * i + j)) &&& left)) * 16 + pc (μ (144 + (8 * i + j))); omega
                refine g_iincN (b := 1) (L' := [(0, .ref (w.1 (mc m 0))), (1, .int (nI i)), (2, .int z), (3, .int left), (4, .int (nI b)), (5, .int (nI (rnk μ i left b))), (6, .int (nI (j + 1))), (7, .int (μ (144 + (8 * i + j)))), (8, .int (nI (((nA μ (16 + j)) * 16 + (pc ((μ (144 + (8 * i + j))) &&& left))) * 16 + (pc (μ (144 + (8 * i + j)))))))]) h dX0_best_94 6 rfl rfl (by decide) (by decide) rfl ?_
                refine g_goto h dX0_best_97 ?_
                exact g_sub [0, 1, 2, 3, 4, 5, 6] rfl (ih9 (some b) (j + 1) (by first | (simp [bst, ho, c15, c40, c47, c83]; done) | (simp [bst, ho, d83, c15, c40, c47]; done) | fail | fail) (by omega) (by first | assumption | (intro b e; cases e; omega) | fail | fail) (by omega))
              ·
                have d83 : rnk μ i left b < rnk μ i left j := by show _ < (nA μ (16 + j) * 16 + pc (μ (144 + (8 * i + j)) &&& left)) * 16 + pc (μ (144 + (8 * i + j))); omega
                refine g_iload h dX0_best_86 6 rfl ?_
                refine g_istore (L' := [(0, .ref (w.1 (mc m 0))), (1, .int (nI i)), (2, .int z), (3, .int left), (4, .int (nI j)), (5, .int (nI (rnk μ i left b))), (6, .int (nI j)), (7, .int (μ (144 + (8 * i + j)))), (8, .int (nI (((nA μ (16 + j)) * 16 + (pc ((μ (144 + (8 * i + j))) &&& left))) * 16 + (pc (μ (144 + (8 * i + j)))))))]) h dX0_best_88 rfl (by decide) rfl ?_
                refine g_iload h dX0_best_90 8 rfl ?_
                refine g_istore (L' := [(0, .ref (w.1 (mc m 0))), (1, .int (nI i)), (2, .int z), (3, .int left), (4, .int (nI j)), (5, .int (nI (((nA μ (16 + j)) * 16 + (pc ((μ (144 + (8 * i + j))) &&& left))) * 16 + (pc (μ (144 + (8 * i + j))))))), (6, .int (nI j)), (7, .int (μ (144 + (8 * i + j)))), (8, .int (nI (((nA μ (16 + j)) * 16 + (pc ((μ (144 + (8 * i + j))) &&& left))) * 16 + (pc (μ (144 + (8 * i + j)))))))]) h dX0_best_92 rfl (by decide) rfl ?_
                refine g_iincN (b := 1) (L' := [(0, .ref (w.1 (mc m 0))), (1, .int (nI i)), (2, .int z), (3, .int left), (4, .int (nI j)), (5, .int (nI (((nA μ (16 + j)) * 16 + (pc ((μ (144 + (8 * i + j))) &&& left))) * 16 + (pc (μ (144 + (8 * i + j))))))), (6, .int (nI (j + 1))), (7, .int (μ (144 + (8 * i + j)))), (8, .int (nI (((nA μ (16 + j)) * 16 + (pc ((μ (144 + (8 * i + j))) &&& left))) * 16 + (pc (μ (144 + (8 * i + j)))))))]) h dX0_best_94 6 rfl rfl (by decide) (by decide) rfl ?_
                refine g_goto h dX0_best_97 ?_
                exact g_sub [0, 1, 2, 3, 4, 5, 6] rfl (ih9 (some j) (j + 1) (by first | (simp [bst, ho, c15, c40, c47, c83]; done) | (simp [bst, ho, d83, c15, c40, c47]; done) | fail | fail) (by omega) (by first | assumption | (intro b e; cases e; omega) | fail | fail) (by omega))
  exact lp9 (_) none 0 (by rfl) (by omega) (by intro b e; cases e) (Nat.lt_succ_self _)

set_option maxRecDepth 100000 in
set_option maxHeartbeats 4000000 in
theorem c_pickMore {l : Launch} {w : Wd} (hW : Wi w) {σ : Mem} (i : Nat) (m : Nat) (μ : Nat → Int32) (hm : m < 6) (hv : vw (vb m) σ = μ) (hI : MI μ) (hi : i < 8) : MC l w qX0_pickMore 2 [.ref (w.1 6), .ref (w.1 (mc m 0)), .int (nI i), .int (pkS μ i 0), .int (bhd μ i)] σ (some (.int (pkS μ i 8))) (fun σ' => (PK μ i σ' 15013 15100) ∧ (∀ a, (a ≠ 15013 ∧ (a < 15100 ∨ 15108 ≤ a)) → σ' a = σ a)) := by
  refine MC.of hW (by decide +kernel) (Nat.le_of_ble_eq_true rfl) (fun X h hQ hnm => ?_)
  have h : Fx X w cX0_pickMore 10 RX0 2 := h
  have hQ : Qx X w (some .int) (some (.int (pkS μ i 8))) (fun σ' => (PK μ i σ' 15013 15100) ∧ (∀ a, (a ≠ 15013 ∧ (a < 15100 ∨ 15108 ≤ a)) → σ' a = σ a)) := hQ
  have hN8 := mi_8 hI
  show G X w 10 0 [(0, .ref (w.1 6)), (1, .ref (w.1 (mc m 0))), (2, .int (nI i)), (3, .int (pkS μ i 0)), (4, .int (bhd μ i))] [] σ
  refine g_aload_n h dX0_pickMore_0 1 rfl ?_
  refine g_iload_n h dX0_pickMore_1 2 rfl ?_
  refine g_cspi (rest := []) h (c_willing hW i m μ (by first | omega | decide | fail) (by first | exact hv | assumption | fail) (by assumption) (by omega)) lX0_willing mX0_41 (Nat.lt_of_lt_of_le (by decide) (Nat.le_refl _)) (by decide) rfl rfl rfl dX0_pickMore_2 ?_
  refine g_istore (L' := [(0, .ref (w.1 6)), (1, .ref (w.1 (mc m 0))), (2, .int (nI i)), (3, .int (pkS μ i 0)), (4, .int (bhd μ i)), (5, .int (wil μ i))]) h dX0_pickMore_5 rfl (by decide) rfl ?_
  refine g_iload_n h dX0_pickMore_7 3 rfl ?_
  refine g_istore (L' := [(0, .ref (w.1 6)), (1, .ref (w.1 (mc m 0))), (2, .int (nI i)), (3, .int (pkS μ i 0)), (4, .int (bhd μ i)), (5, .int (wil μ i)), (6, .int (pkS μ i 0))]) h dX0_pickMore_8 rfl (by decide) rfl ?_
  refine g_aload_n h dX0_pickMore_10 0 rfl ?_
  refine g_iconst h dX0_pickMore_11 (by decide) ?_
  refine g_puti h dX0_pickMore_12 pX0_88 sc_6 rfl ?_
  refine g_nm (fun σa eσa => ?_)
  have eσa : σa = upd σ 15013 (nI 0) := eσa
  have hvσa : vw (vb m) σa = μ := by rw [eσa, vw_out (by simp only [vb]; omega)]; first | exact hv | assumption
  refine g_iconst h dX0_pickMore_15 (by decide) ?_
  refine g_istore (L' := [(0, .ref (w.1 6)), (1, .ref (w.1 (mc m 0))), (2, .int (nI i)), (3, .int (pkS μ i 0)), (4, .int (bhd μ i)), (5, .int (wil μ i)), (6, .int (pkS μ i 0)), (7, .int (nI 0))]) h dX0_pickMore_16 rfl (by decide) rfl ?_
  have lp18 : ∀ (k9 : Nat) (s : Int32) (n : Nat) (τ : Mem), (s = pkS μ i n) → (n ≤ 8) → (τ 15013 = nI n) → (∀ q, q < n → ∃ x, pkB μ i (pkS μ i q) = some x ∧ τ (15100 + q) = nI x) → (vw (vb m) τ = μ) → (∀ a, (a ≠ 15013 ∧ (a < 15100 ∨ 15108 ≤ a)) → τ a = σ a) → 8 - n < k9 → G X w 10 18 [(0, .ref (w.1 6)), (1, .ref (w.1 (mc m 0))), (2, .int (nI i)), (3, .int (pkS μ i 0)), (4, .int (bhd μ i)), (5, .int (wil μ i)), (6, .int s), (7, .int (nI n))] [] (τ) := by
    intro k9
    induction k9 with
    | zero => intro s n τ hs hn hpk hli hvτ hf hm9; exact absurd hm9 (Nat.not_lt_zero _)
    | succ k9 ih18 =>
      intro s n τ hs hn hpk hli hvτ hf hm18
      refine g_iload h dX0_pickMore_18 7 rfl ?_
      refine g_bipush h dX0_pickMore_20 (by decide) ?_
      refine g_icmpN_ge h dX0_pickMore_22 (by omega) (by omega) (fun c22 => ?_) (fun c22 => ?_)
      ·
        refine g_iload h dX0_pickMore_97 6 rfl ?_
        exact g_iret h hQ dX0_pickMore_99 (congrArg (fun z => some (Value.int z)) (show (pkS μ i 8) = s by first | (rw [hs]; exact pkS_end hs hx hn) | (have e9 : n = 8 := (by omega); subst e9; exact hs.symm) | fail)) (by first | exact ⟨⟨n, hn, hpk, fun _ => (by rw [← hs]; exact hx), hli⟩, hf⟩ | exact ⟨⟨n, hn, hpk, fun q => absurd q (by omega), hli⟩, hf⟩ | fail)
      ·
        refine g_iload h dX0_pickMore_25 4 rfl ?_
        refine g_aload_n h dX0_pickMore_27 1 rfl ?_
        refine g_iload_n h dX0_pickMore_28 2 rfl ?_
        refine g_iload h dX0_pickMore_29 6 rfl ?_
        refine g_cspi (rest := [.int (bhd μ i)]) h (c_knownOf hW i s m μ (by first | omega | decide | fail) (by first | exact hvτ | assumption | fail) (by assumption) (by omega)) lX0_knownOf mX0_45 (Nat.lt_of_lt_of_le (by decide) (Nat.le_refl _)) (by decide) rfl rfl rfl dX0_pickMore_31 ?_
        refine g_iconstv h dX0_pickMore_34 (v := (-1)) (by decide) ?_
        refine g_ixor h dX0_pickMore_35  ?_
        refine g_top (y := nots (kno μ i s)) rfl ?_
        refine g_iand h dX0_pickMore_36  ?_
        refine g_istore (L' := [(0, .ref (w.1 6)), (1, .ref (w.1 (mc m 0))), (2, .int (nI i)), (3, .int (pkS μ i 0)), (4, .int (bhd μ i)), (5, .int (wil μ i)), (6, .int s), (7, .int (nI n)), (8, .int ((bhd μ i) &&& (nots (kno μ i s))))]) h dX0_pickMore_37 rfl (by decide) rfl ?_
        refine g_aload_n h dX0_pickMore_39 1 rfl ?_
        refine g_iload_n h dX0_pickMore_40 2 rfl ?_
        refine g_iload h dX0_pickMore_41 5 rfl ?_
        refine g_iload h dX0_pickMore_43 6 rfl ?_
        refine g_iconstv h dX0_pickMore_45 (v := (-1)) (by decide) ?_
        refine g_ixor h dX0_pickMore_46  ?_
        refine g_top (y := nots s) rfl ?_
        refine g_iand h dX0_pickMore_47  ?_
        refine g_iload h dX0_pickMore_48 8 rfl ?_
        refine g_cspi (rest := []) h (c_best hW i ((wil μ i) &&& (nots s)) ((bhd μ i) &&& (nots (kno μ i s))) m μ (by first | omega | decide | fail) (by first | exact hvτ | assumption | fail) (by assumption) (by omega)) lX0_best mX0_91 (Nat.lt_of_lt_of_le (by decide) (Nat.le_refl _)) (by decide) rfl rfl rfl dX0_pickMore_50 ?_
        refine g_top (y := (oI (pkB μ i s))) rfl ?_
        refine g_istore (L' := [(0, .ref (w.1 6)), (1, .ref (w.1 (mc m 0))), (2, .int (nI i)), (3, .int (pkS μ i 0)), (4, .int (bhd μ i)), (5, .int (wil μ i)), (6, .int s), (7, .int (nI n)), (8, .int ((bhd μ i) &&& (nots (kno μ i s)))), (9, .int (oI (pkB μ i s)))]) h dX0_pickMore_53 rfl (by decide) rfl ?_
        rcases hx : pkB μ i s with _ | x
        ·
          show G X w 10 55 [(0, .ref (w.1 6)), (1, .ref (w.1 (mc m 0))), (2, .int (nI i)), (3, .int (pkS μ i 0)), (4, .int (bhd μ i)), (5, .int (wil μ i)), (6, .int s), (7, .int (nI n)), (8, .int ((bhd μ i) &&& (nots (kno μ i s)))), (9, .int (-1))] [] (τ)
          refine g_iload h dX0_pickMore_55 9 rfl ?_
          refine g_iconstv h dX0_pickMore_57 (v := (-1)) (by decide) ?_
          refine g_icmp_ne h dX0_pickMore_58 (fun c58 => (by exfalso; first | exact c58 rfl | exact nI_ne_m1 (by omega) c58 | exact c58 (nI_ne_m1 (by omega)) | exact nI_le_m1 (by omega) c58 | exact c58 (m1_lt (by omega)) | exact absurd c58 (by decide))) (fun c58 => ?_)
          refine g_iload h dX0_pickMore_61 6 rfl ?_
          exact g_iret h hQ dX0_pickMore_63 (congrArg (fun z => some (Value.int z)) (show (pkS μ i 8) = s by first | (rw [hs]; exact pkS_end hs hx hn) | (have e9 : n = 8 := (by omega); subst e9; exact hs.symm) | fail)) (by first | exact ⟨⟨n, hn, hpk, fun _ => (by rw [← hs]; exact hx), hli⟩, hf⟩ | exact ⟨⟨n, hn, hpk, fun q => absurd q (by omega), hli⟩, hf⟩ | fail)
        ·
          have hxN := (bst_some hx).1
          show G X w 10 55 [(0, .ref (w.1 6)), (1, .ref (w.1 (mc m 0))), (2, .int (nI i)), (3, .int (pkS μ i 0)), (4, .int (bhd μ i)), (5, .int (wil μ i)), (6, .int s), (7, .int (nI n)), (8, .int ((bhd μ i) &&& (nots (kno μ i s)))), (9, .int (nI x))] [] (τ)
          refine g_iload h dX0_pickMore_55 9 rfl ?_
          refine g_iconstv h dX0_pickMore_57 (v := (-1)) (by decide) ?_
          refine g_icmp_ne h dX0_pickMore_58 (fun c58 => ?_) (fun c58 => (by exfalso; first | exact c58 rfl | exact nI_ne_m1 (by omega) c58 | exact c58 (nI_ne_m1 (by omega)) | exact nI_le_m1 (by omega) c58 | exact c58 (m1_lt (by omega)) | exact absurd c58 (by decide)))
          refine g_aload_n h dX0_pickMore_64 0 rfl ?_
          refine g_getr h dX0_pickMore_65 gX0_9 sc_6 rfl ?_
          refine g_iload h dX0_pickMore_68 7 rfl ?_
          refine g_iload h dX0_pickMore_70 9 rfl ?_
          refine g_iast h dX0_pickMore_72 sc_7 (by omega) ?_
          refine g_nm (fun σb eσb => ?_)
          have eσb : σb = upd (τ) (15100 + n) (nI x) := eσb
          have hvσb : vw (vb m) σb = μ := by rw [eσb, vw_out (by simp only [vb]; omega)]; first | exact hvτ | assumption
          refine g_aload_n h dX0_pickMore_73 0 rfl ?_
          refine g_iload h dX0_pickMore_74 7 rfl ?_
          refine g_iconst h dX0_pickMore_76 (by decide) ?_
          refine g_iaddN h dX0_pickMore_77  ?_
          refine g_puti h dX0_pickMore_78 pX0_88 sc_6 rfl ?_
          refine g_nm (fun σc eσc => ?_)
          have eσc : σc = upd σb 15013 (nI (n + 1)) := eσc
          have hvσc : vw (vb m) σc = μ := by rw [eσc, vw_out (by simp only [vb]; omega)]; first | exact hvσb | assumption
          refine g_iload h dX0_pickMore_81 6 rfl ?_
          refine g_iload h dX0_pickMore_83 9 rfl ?_
          refine g_iconst h dX0_pickMore_85 (by decide) ?_
          refine g_cspi (rest := []) h (c_with hW s x true ) lX5_with mX0_37 (Nat.lt_of_lt_of_le (by decide) (Nat.le_refl _)) (by decide) rfl rfl rfl dX0_pickMore_86 ?_
          refine g_top (y := (s ||| bt1 x)) rfl ?_
          refine g_istore (L' := [(0, .ref (w.1 6)), (1, .ref (w.1 (mc m 0))), (2, .int (nI i)), (3, .int (pkS μ i 0)), (4, .int (bhd μ i)), (5, .int (wil μ i)), (6, .int (s ||| bt1 x)), (7, .int (nI n)), (8, .int ((bhd μ i) &&& (nots (kno μ i s)))), (9, .int (nI x))]) h dX0_pickMore_89 rfl (by decide) rfl ?_
          refine g_iincN (b := 1) (L' := [(0, .ref (w.1 6)), (1, .ref (w.1 (mc m 0))), (2, .int (nI i)), (3, .int (pkS μ i 0)), (4, .int (bhd μ i)), (5, .int (wil μ i)), (6, .int (s ||| bt1 x)), (7, .int (nI (n + 1))), (8, .int ((bhd μ i) &&& (nots (kno μ i s)))), (9, .int (nI x))]) h dX0_pickMore_91 7 rfl rfl (by decide) (by decide) rfl ?_
          refine g_goto h dX0_pickMore_94 ?_
          exact g_sub [0, 1, 2, 3, 4, 5, 6, 7] rfl (ih18 (s ||| bt1 x) (n + 1) σc (by simp [pkS, ← hs, hx]) (by omega) (by rw [eσc]; exact upd_eq) (by exact pk_more hs hx hli eσb eσc) (by assumption) (by intro a ha; rw [eσc, upd_ne (by omega), eσb, upd_ne (by omega)]; exact hf a ha) (by omega))
  exact lp18 (_) (pkS μ i 0) 0 σa (by rfl) (by omega) (by rw [eσa]; exact upd_eq) (by intro q hq; omega) (by assumption) (by intro a ha; rw [eσa, upd_ne (by omega)]) (Nat.lt_succ_self _)

set_option maxRecDepth 100000 in
set_option maxHeartbeats 4000000 in
theorem c_dropSpare {l : Launch} {w : Wd} (hW : Wi w) {σ : Mem} (i : Nat) (m : Nat) (μ : Nat → Int32) (hm : m < 6) (hv : vw (vb m) σ = μ) (hI : MI μ) (hi : i < 8) : MC l w qX0_dropSpare 2 [.ref (w.1 (mc m 0)), .int (nI i), .int (pkS μ i 8), .int (bhd μ i)] σ (some (.int (chos μ i))) (fun σ' => σ' = σ) := by
  refine MC.of hW (by decide +kernel) (Nat.le_of_ble_eq_true rfl) (fun X h hQ hnm => ?_)
  have h : Fx X w cX0_dropSpare 9 RX0 2 := h
  have hQ : Qx X w (some .int) (some (.int (chos μ i))) (fun σ' => σ' = σ) := hQ
  have hN8 := mi_8 hI
  show G X w 9 0 [(0, .ref (w.1 (mc m 0))), (1, .int (nI i)), (2, .int (pkS μ i 8)), (3, .int (bhd μ i))] [] σ
  refine g_iload_n h dX0_dropSpare_0 2 rfl ?_
  refine g_istore (L' := [(0, .ref (w.1 (mc m 0))), (1, .int (nI i)), (2, .int (pkS μ i 8)), (3, .int (bhd μ i)), (4, .int (pkS μ i 8))]) h dX0_dropSpare_1 rfl (by decide) rfl ?_
  refine g_iconst h dX0_dropSpare_3 (by decide) ?_
  refine g_istore (L' := [(0, .ref (w.1 (mc m 0))), (1, .int (nI i)), (2, .int (pkS μ i 8)), (3, .int (bhd μ i)), (4, .int (pkS μ i 8)), (5, .int (nI 0))]) h dX0_dropSpare_4 rfl (by decide) rfl ?_
  have lp6 : ∀ (k9 : Nat) (s2 : Int32) (wl : Nat), (s2 = dW μ i (pkS μ i 8) wl) → (wl ≤ 7) → 7 - wl < k9 → G X w 9 6 [(0, .ref (w.1 (mc m 0))), (1, .int (nI i)), (2, .int (pkS μ i 8)), (3, .int (bhd μ i)), (4, .int s2), (5, .int (nI wl))] [] σ := by
    intro k9
    induction k9 with
    | zero => intro s2 wl hs2 hw hm9; exact absurd hm9 (Nat.not_lt_zero _)
    | succ k9 ih6 =>
      intro s2 wl hs2 hw hm6
      refine g_iload h dX0_dropSpare_6 5 rfl ?_
      refine g_bipush h dX0_dropSpare_8 (by decide) ?_
      refine g_icmpN_ge h dX0_dropSpare_10 (by omega) (by omega) (fun c10 => ?_) (fun c10 => ?_)
      ·
        refine g_iload h dX0_dropSpare_100 4 rfl ?_
        exact g_iret h hQ dX0_dropSpare_102 (congrArg (fun z => some (Value.int z)) (show (chos μ i) = s2 by have e9 : wl = 7 := (by omega); subst e9; exact hs2.symm)) rfl
      ·
        refine g_aload_n h dX0_dropSpare_13 0 rfl ?_
        refine g_geti h dX0_dropSpare_14 gX0_15 (sM_0 (m := m) (by omega)) rfl ?_
        refine g_top (y := μ 0) (vw_pic (b := (vb m)) (k := 0) (by first | exact hv | assumption) (by omega)) ?_
        refine g_top (y := nI (nN μ)) (mi_0 (by assumption)) ?_
        refine g_iconst h dX0_dropSpare_17 (by decide) ?_
        refine g_isub h dX0_dropSpare_18  ?_
        refine g_top (y := (pI (nN μ))) pI_of ?_
        refine g_istore (L' := [(0, .ref (w.1 (mc m 0))), (1, .int (nI i)), (2, .int (pkS μ i 8)), (3, .int (bhd μ i)), (4, .int s2), (5, .int (nI wl)), (6, .int (pI (nN μ)))]) h dX0_dropSpare_19 rfl (by decide) rfl ?_
        have lp21 : ∀ (k9 : Nat) (s3 : Int32) (jj : Nat), (dS μ i wl jj s3 = dW μ i (pkS μ i 8) (wl + 1)) → (jj ≤ nN μ) → jj < k9 → G X w 9 21 [(0, .ref (w.1 (mc m 0))), (1, .int (nI i)), (2, .int (pkS μ i 8)), (3, .int (bhd μ i)), (4, .int s3), (5, .int (nI wl)), (6, .int (pI jj))] [] σ := by
          intro k9
          induction k9 with
          | zero => intro s3 jj hd hjj hm9; exact absurd hm9 (Nat.not_lt_zero _)
          | succ k9 ih21 =>
            intro s3 jj hd hjj hm21
            rcases jj with _ | jq
            ·
              show G X w 9 21 [(0, .ref (w.1 (mc m 0))), (1, .int (nI i)), (2, .int (pkS μ i 8)), (3, .int (bhd μ i)), (4, .int s3), (5, .int (nI wl)), (6, .int (-1))] [] σ
              refine g_iload h dX0_dropSpare_21 6 rfl ?_
              refine g_if_lt h dX0_dropSpare_23 (fun c23 => ?_) (fun c23 => absurd c23 (by decide))
              refine g_iincN (b := 1) (L' := [(0, .ref (w.1 (mc m 0))), (1, .int (nI i)), (2, .int (pkS μ i 8)), (3, .int (bhd μ i)), (4, .int s3), (5, .int (nI (wl + 1))), (6, .int (-1))]) h dX0_dropSpare_94 5 rfl rfl (by decide) (by decide) rfl ?_
              refine g_goto h dX0_dropSpare_97 ?_
              exact g_sub [0, 1, 2, 3, 4, 5] rfl (ih6 s3 (wl + 1) (by exact hd) (by omega) (by omega))
            ·
              show G X w 9 21 [(0, .ref (w.1 (mc m 0))), (1, .int (nI i)), (2, .int (pkS μ i 8)), (3, .int (bhd μ i)), (4, .int s3), (5, .int (nI wl)), (6, .int (nI jq))] [] σ
              refine g_iload h dX0_dropSpare_21 6 rfl ?_
              refine g_ifN_lt h dX0_dropSpare_23 (by omega) ?_
              refine g_iload h dX0_dropSpare_26 4 rfl ?_
              refine g_iload h dX0_dropSpare_28 6 rfl ?_
              refine g_iconst h dX0_dropSpare_30 (by decide) ?_
              refine g_cspi (rest := []) h (c_with hW s3 jq false ) lX5_with mX0_37 (Nat.lt_of_lt_of_le (by decide) (Nat.le_refl _)) (by decide) rfl rfl rfl dX0_dropSpare_31 ?_
              refine g_top (y := (s3 &&& nots (bt1 jq))) rfl ?_
              refine g_istore (L' := [(0, .ref (w.1 (mc m 0))), (1, .int (nI i)), (2, .int (pkS μ i 8)), (3, .int (bhd μ i)), (4, .int s3), (5, .int (nI wl)), (6, .int (nI jq)), (7, .int (s3 &&& nots (bt1 jq)))]) h dX0_dropSpare_34 rfl (by decide) rfl ?_
              refine g_iload h dX0_dropSpare_36 4 rfl ?_
              refine g_iload h dX0_dropSpare_38 6 rfl ?_
              refine g_cspi (rest := []) h (c_has hW s3 jq (by omega)) lX5_has mX0_30 (Nat.lt_of_lt_of_le (by decide) (Nat.le_refl _)) (by decide) rfl rfl rfl dX0_dropSpare_40 ?_
              refine g_ifB_eq h dX0_dropSpare_43 (fun c43 => ?_) (fun c43 => ?_)
              ·
                refine g_iconst h dX0_dropSpare_62 (by decide) ?_
                refine g_istore (L' := [(0, .ref (w.1 (mc m 0))), (1, .int (nI i)), (2, .int (pkS μ i 8)), (3, .int (bhd μ i)), (4, .int s3), (5, .int (nI wl)), (6, .int (nI jq)), (7, .int (s3 &&& nots (bt1 jq))), (8, .int (nI 0))]) h dX0_dropSpare_63 rfl (by decide) rfl ?_
                refine g_iload h dX0_dropSpare_65 8 rfl ?_
                refine g_ifN_eq h dX0_dropSpare_67 (by decide) (fun c67 => ?_) (fun c67 => absurd c67 (by decide))
                refine g_iinc (v := (pI jq)) (L' := [(0, .ref (w.1 (mc m 0))), (1, .int (nI i)), (2, .int (pkS μ i 8)), (3, .int (bhd μ i)), (4, .int s3), (5, .int (nI wl)), (6, .int (pI jq)), (7, .int (s3 &&& nots (bt1 jq))), (8, .int (nI 0))]) h dX0_dropSpare_88 6 rfl rfl (by decide) pI_dec rfl ?_
                refine g_goto h dX0_dropSpare_91 ?_
                exact g_sub [0, 1, 2, 3, 4, 5, 6] rfl (ih21 s3 jq (by rw [← hd]; simp [dS, c10, c43]) (by omega) (by omega))
              ·
                refine g_aload_n h dX0_dropSpare_46 0 rfl ?_
                refine g_getr h dX0_dropSpare_47 gX0_34 (sM_0 (m := m) (by omega)) rfl ?_
                refine g_iload h dX0_dropSpare_50 6 rfl ?_
                refine g_iald h dX0_dropSpare_52 (sM_1 (m := m) (by omega)) (by omega) ?_
                refine g_top (y := μ (16 + jq)) (vw_pic (b := (vb m)) (k := 16 + jq) (by first | exact hv | assumption) (by omega)) ?_
                refine g_top (y := nI (nA μ (16 + jq))) (mi_16 (by assumption) (by omega)) ?_
                have b9_52 : nA μ (16 + jq) < 8 := mb_16 (by assumption) (by omega)
                refine g_iload h dX0_dropSpare_53 5 rfl ?_
                refine g_icmpN_ne h dX0_dropSpare_55 (by omega) (by omega) (fun c55 => ?_) (fun c55 => ?_)
                ·
                  refine g_iconst h dX0_dropSpare_62 (by decide) ?_
                  refine g_istore (L' := [(0, .ref (w.1 (mc m 0))), (1, .int (nI i)), (2, .int (pkS μ i 8)), (3, .int (bhd μ i)), (4, .int s3), (5, .int (nI wl)), (6, .int (nI jq)), (7, .int (s3 &&& nots (bt1 jq))), (8, .int (nI 0))]) h dX0_dropSpare_63 rfl (by decide) rfl ?_
                  refine g_iload h dX0_dropSpare_65 8 rfl ?_
                  refine g_ifN_eq h dX0_dropSpare_67 (by decide) (fun c67 => ?_) (fun c67 => absurd c67 (by decide))
                  refine g_iinc (v := (pI jq)) (L' := [(0, .ref (w.1 (mc m 0))), (1, .int (nI i)), (2, .int (pkS μ i 8)), (3, .int (bhd μ i)), (4, .int s3), (5, .int (nI wl)), (6, .int (pI jq)), (7, .int (s3 &&& nots (bt1 jq))), (8, .int (nI 0))]) h dX0_dropSpare_88 6 rfl rfl (by decide) pI_dec rfl ?_
                  refine g_goto h dX0_dropSpare_91 ?_
                  exact g_sub [0, 1, 2, 3, 4, 5, 6] rfl (ih21 s3 jq (by rw [← hd]; simp [dS, c10, c43, c55]) (by omega) (by omega))
                ·
                  refine g_iconst h dX0_dropSpare_58 (by decide) ?_
                  refine g_goto h dX0_dropSpare_59 ?_
                  refine g_istore (L' := [(0, .ref (w.1 (mc m 0))), (1, .int (nI i)), (2, .int (pkS μ i 8)), (3, .int (bhd μ i)), (4, .int s3), (5, .int (nI wl)), (6, .int (nI jq)), (7, .int (s3 &&& nots (bt1 jq))), (8, .int (nI 1))]) h dX0_dropSpare_63 rfl (by decide) rfl ?_
                  refine g_iload h dX0_dropSpare_65 8 rfl ?_
                  refine g_ifN_eq h dX0_dropSpare_67 (by decide) (fun c67 => absurd c67 (by decide)) (fun c67 => ?_)
                  refine g_iload_n h dX0_dropSpare_70 3 rfl ?_
                  refine g_aload_n h dX0_dropSpare_71 0 rfl ?_
                  refine g_iload_n h dX0_dropSpare_72 1 rfl ?_
                  refine g_iload h dX0_dropSpare_73 7 rfl ?_
                  refine g_cspi (rest := [.int (bhd μ i)]) h (c_knownOf hW i (s3 &&& nots (bt1 jq)) m μ (by first | omega | decide | fail) (by first | exact hv | assumption | fail) (by assumption) (by omega)) lX0_knownOf mX0_45 (Nat.lt_of_lt_of_le (by decide) (Nat.le_refl _)) (by decide) rfl rfl rfl dX0_dropSpare_75 ?_
                  refine g_iconstv h dX0_dropSpare_78 (v := (-1)) (by decide) ?_
                  refine g_ixor h dX0_dropSpare_79  ?_
                  refine g_top (y := nots (kno μ i (s3 &&& nots (bt1 jq)))) rfl ?_
                  refine g_iand h dX0_dropSpare_80  ?_
                  refine g_if_ne h dX0_dropSpare_81 (fun c81 => ?_) (fun c81 => ?_)
                  ·
                    refine g_iinc (v := (pI jq)) (L' := [(0, .ref (w.1 (mc m 0))), (1, .int (nI i)), (2, .int (pkS μ i 8)), (3, .int (bhd μ i)), (4, .int s3), (5, .int (nI wl)), (6, .int (pI jq)), (7, .int (s3 &&& nots (bt1 jq))), (8, .int (nI 1))]) h dX0_dropSpare_88 6 rfl rfl (by decide) pI_dec rfl ?_
                    refine g_goto h dX0_dropSpare_91 ?_
                    exact g_sub [0, 1, 2, 3, 4, 5, 6] rfl (ih21 s3 jq (by rw [← hd]; simp [dS, c10, c43, c55, c81]) (by omega) (by omega))
                  ·
                    refine g_iload h dX0_dropSpare_84 7 rfl ?_
                    refine g_istore (L' := [(0, .ref (w.1 (mc m 0))), (1, .int (nI i)), (2, .int (pkS μ i 8)), (3, .int (bhd μ i)), (4, .int (s3 &&& nots (bt1 jq))), (5, .int (nI wl)), (6, .int (nI jq)), (7, .int (s3 &&& nots (bt1 jq))), (8, .int (nI 1))]) h dX0_dropSpare_86 rfl (by decide) rfl ?_
                    refine g_iinc (v := (pI jq)) (L' := [(0, .ref (w.1 (mc m 0))), (1, .int (nI i)), (2, .int (pkS μ i 8)), (3, .int (bhd μ i)), (4, .int (s3 &&& nots (bt1 jq))), (5, .int (nI wl)), (6, .int (pI jq)), (7, .int (s3 &&& nots (bt1 jq))), (8, .int (nI 1))]) h dX0_dropSpare_88 6 rfl rfl (by decide) pI_dec rfl ?_
                    refine g_goto h dX0_dropSpare_91 ?_
                    exact g_sub [0, 1, 2, 3, 4, 5, 6] rfl (ih21 (s3 &&& nots (bt1 jq)) jq (by rw [← hd]; simp [dS, c10, c43, c55, c81]) (by omega) (by omega))
        exact lp21 (_) s2 (nN μ) (by rw [hs2]; rfl) (by omega) (Nat.lt_succ_self _)
  exact lp6 (_) (pkS μ i 8) 0 (by rfl) (by omega) (Nat.lt_succ_self _)

set_option maxRecDepth 100000 in
set_option maxHeartbeats 4000000 in
theorem c_chosen {l : Launch} {w : Wd} (hW : Wi w) {σ : Mem} (i : Nat) (m : Nat) (μ : Nat → Int32) (hm : m < 6) (hv : vw (vb m) σ = μ) (hI : MI μ) (hi : i < 8) : MC l w qX0_chosen 3 [.ref (w.1 6), .ref (w.1 (mc m 0)), .int (nI i)] σ (some (.int (chos μ i))) (fun σ' => (PK μ i σ' 15013 15100) ∧ (∀ a, (a ≠ 15013 ∧ (a < 15100 ∨ 15108 ≤ a)) → σ' a = σ a)) := by
  refine MC.of hW (by decide +kernel) (Nat.le_of_ble_eq_true rfl) (fun X h hQ hnm => ?_)
  have h : Fx X w cX0_chosen 7 RX0 3 := h
  have hQ : Qx X w (some .int) (some (.int (chos μ i))) (fun σ' => (PK μ i σ' 15013 15100) ∧ (∀ a, (a ≠ 15013 ∧ (a < 15100 ∨ 15108 ≤ a)) → σ' a = σ a)) := hQ
  have hN8 := mi_8 hI
  show G X w 7 0 [(0, .ref (w.1 6)), (1, .ref (w.1 (mc m 0))), (2, .int (nI i))] [] σ
  refine g_aload_n h dX0_chosen_0 1 rfl ?_
  refine g_iload_n h dX0_chosen_1 2 rfl ?_
  refine g_cspi (rest := []) h (c_willing hW i m μ (by first | omega | decide | fail) (by first | exact hv | assumption | fail) (by assumption) (by omega)) lX0_willing mX0_41 (Nat.lt_of_lt_of_le (by decide) (Nat.le_refl _)) (by decide) rfl rfl rfl dX0_chosen_2 ?_
  refine g_istore_n (L' := [(0, .ref (w.1 6)), (1, .ref (w.1 (mc m 0))), (2, .int (nI i)), (3, .int (wil μ i))]) h dX0_chosen_5 rfl (by decide) rfl ?_
  refine g_aload_n h dX0_chosen_6 1 rfl ?_
  refine g_iload_n h dX0_chosen_7 2 rfl ?_
  refine g_cspi (rest := []) h (c_behind hW i m μ (by first | omega | decide | fail) (by first | exact hv | assumption | fail) (by assumption) (by omega)) lX0_behind mX0_60 (Nat.lt_of_lt_of_le (by decide) (Nat.le_refl _)) (by decide) rfl rfl rfl dX0_chosen_8 ?_
  refine g_istore (L' := [(0, .ref (w.1 6)), (1, .ref (w.1 (mc m 0))), (2, .int (nI i)), (3, .int (wil μ i)), (4, .int (bhd μ i))]) h dX0_chosen_11 rfl (by decide) rfl ?_
  refine g_aload_n h dX0_chosen_13 1 rfl ?_
  refine g_iload_n h dX0_chosen_14 2 rfl ?_
  refine g_iload_n h dX0_chosen_15 3 rfl ?_
  refine g_iload h dX0_chosen_16 4 rfl ?_
  refine g_cspi (rest := []) h (c_onlyWays hW i (wil μ i) (bhd μ i) m μ (by first | omega | decide | fail) (by first | exact hv | assumption | fail) (by assumption) (by omega)) lX0_onlyWays mX0_78 (Nat.lt_of_lt_of_le (by decide) (Nat.le_refl _)) (by decide) rfl rfl rfl dX0_chosen_18 ?_
  refine g_istore (L' := [(0, .ref (w.1 6)), (1, .ref (w.1 (mc m 0))), (2, .int (nI i)), (3, .int (wil μ i)), (4, .int (bhd μ i)), (5, .int (alo μ i (wil μ i) (bhd μ i)))]) h dX0_chosen_21 rfl (by decide) rfl ?_
  refine g_iconst h dX0_chosen_23 (by decide) ?_
  refine g_istore (L' := [(0, .ref (w.1 6)), (1, .ref (w.1 (mc m 0))), (2, .int (nI i)), (3, .int (wil μ i)), (4, .int (bhd μ i)), (5, .int (alo μ i (wil μ i) (bhd μ i))), (6, .int (nI 0))]) h dX0_chosen_24 rfl (by decide) rfl ?_
  have lp26 : ∀ (k9 : Nat) (s : Int32) (j : Nat), (s = ful μ i j) → (j ≤ nN μ) → nN μ - j < k9 → G X w 7 26 [(0, .ref (w.1 6)), (1, .ref (w.1 (mc m 0))), (2, .int (nI i)), (3, .int (wil μ i)), (4, .int (bhd μ i)), (5, .int s), (6, .int (nI j))] [] σ := by
    intro k9
    induction k9 with
    | zero => intro s j hs hj hm9; exact absurd hm9 (Nat.not_lt_zero _)
    | succ k9 ih26 =>
      intro s j hs hj hm26
      refine g_iload h dX0_chosen_26 6 rfl ?_
      refine g_aload_n h dX0_chosen_28 1 rfl ?_
      refine g_geti h dX0_chosen_29 gX0_15 (sM_0 (m := m) (by omega)) rfl ?_
      refine g_top (y := μ 0) (vw_pic (b := (vb m)) (k := 0) (by first | exact hv | assumption) (by omega)) ?_
      refine g_top (y := nI (nN μ)) (mi_0 (by assumption)) ?_
      refine g_icmpN_ge h dX0_chosen_32 (by omega) (by omega) (fun c32 => ?_) (fun c32 => ?_)
      ·
        refine g_aload_n h dX0_chosen_72 0 rfl ?_
        refine g_aload_n h dX0_chosen_73 1 rfl ?_
        refine g_iload_n h dX0_chosen_74 2 rfl ?_
        refine g_iload h dX0_chosen_75 5 rfl ?_
        refine g_top (y := (pkS μ i 0)) (by rw [hs, show j = nN μ from by omega]; rfl) ?_
        refine g_iload h dX0_chosen_77 4 rfl ?_
        refine g_cvi (rest := []) h (c_pickMore hW i m μ (by first | omega | decide | fail) (by first | exact hv | assumption | fail) (by assumption) (by omega)) lX0_pickMore mX0_82 (Nat.lt_of_lt_of_le (by decide) (Nat.le_refl _)) (by decide) sc_6 rfl rfl rfl rfl dX0_chosen_79 (fun σ_1 eσ_1 => ?_)
        obtain ⟨eσ_1_a, eσ_1_b⟩ := eσ_1
        have eσ_1_a : PK μ i σ_1 15013 15100 := eσ_1_a
        have eσ_1_b : ∀ a, (a ≠ 15013 ∧ (a < 15100 ∨ 15108 ≤ a)) → σ_1 a = σ a := eσ_1_b
        have hvσ_1 : vw (vb m) σ_1 = μ := by rw [vw_fr (σ := σ) (fun j _ _ => eσ_1_b _ (by first | omega | (simp only [vb] at *; omega)))]; first | exact hv | assumption
        refine g_istore (L' := [(0, .ref (w.1 6)), (1, .ref (w.1 (mc m 0))), (2, .int (nI i)), (3, .int (wil μ i)), (4, .int (bhd μ i)), (5, .int (pkS μ i 8)), (6, .int (nI j))]) h dX0_chosen_82 rfl (by decide) rfl ?_
        refine g_aload_n h dX0_chosen_84 1 rfl ?_
        refine g_iload_n h dX0_chosen_85 2 rfl ?_
        refine g_iload h dX0_chosen_86 5 rfl ?_
        refine g_iload h dX0_chosen_88 4 rfl ?_
        refine g_cspi (rest := []) h (c_dropSpare hW i m μ (by first | omega | decide | fail) (by first | exact hvσ_1 | assumption | fail) (by assumption) (by omega)) lX0_dropSpare mX0_85 (Nat.lt_of_lt_of_le (by decide) (Nat.le_refl _)) (by decide) rfl rfl rfl dX0_chosen_90 ?_
        exact g_iret h hQ dX0_chosen_93 rfl (by exact ⟨by assumption, by assumption⟩)
      ·
        refine g_iload_n h dX0_chosen_35 3 rfl ?_
        refine g_iload h dX0_chosen_36 6 rfl ?_
        refine g_cspi (rest := []) h (c_has hW (wil μ i) j (by omega)) lX5_has mX0_30 (Nat.lt_of_lt_of_le (by decide) (Nat.le_refl _)) (by decide) rfl rfl rfl dX0_chosen_38 ?_
        refine g_ifB_eq h dX0_chosen_41 (fun c41 => ?_) (fun c41 => ?_)
        ·
          refine g_iincN (b := 1) (L' := [(0, .ref (w.1 6)), (1, .ref (w.1 (mc m 0))), (2, .int (nI i)), (3, .int (wil μ i)), (4, .int (bhd μ i)), (5, .int s), (6, .int (nI (j + 1)))]) h dX0_chosen_66 6 rfl rfl (by decide) (by decide) rfl ?_
          refine g_goto h dX0_chosen_69 ?_
          exact ih26 s (j + 1) (by first | rfl | (simp [hs, mkS, orS, fN, or_n0, ful, lsO, bst, c32, c41]; done) | (simp_all [mkS, orS, fN, or_n0, ful, lsO, bst]; done) | fail | fail) (by omega) (by omega)
        ·
          refine g_aload_n h dX0_chosen_44 1 rfl ?_
          refine g_getr h dX0_chosen_45 gX0_34 (sM_0 (m := m) (by omega)) rfl ?_
          refine g_iload h dX0_chosen_48 6 rfl ?_
          refine g_iald h dX0_chosen_50 (sM_1 (m := m) (by omega)) (by omega) ?_
          refine g_top (y := μ (16 + j)) (vw_pic (b := (vb m)) (k := 16 + j) (by first | exact hv | assumption) (by omega)) ?_
          refine g_top (y := nI (nA μ (16 + j))) (mi_16 (by assumption) (by omega)) ?_
          have b9_50 : nA μ (16 + j) < 8 := mb_16 (by assumption) (by omega)
          refine g_bipush h dX0_chosen_51 (by decide) ?_
          refine g_icmpN_ne h dX0_chosen_53 (by omega) (by omega) (fun c53 => ?_) (fun c53 => ?_)
          ·
            refine g_iincN (b := 1) (L' := [(0, .ref (w.1 6)), (1, .ref (w.1 (mc m 0))), (2, .int (nI i)), (3, .int (wil μ i)), (4, .int (bhd μ i)), (5, .int s), (6, .int (nI (j + 1)))]) h dX0_chosen_66 6 rfl rfl (by decide) (by decide) rfl ?_
            refine g_goto h dX0_chosen_69 ?_
            exact ih26 s (j + 1) (by first | rfl | (simp [hs, mkS, orS, fN, or_n0, ful, lsO, bst, c32, c41, c53]; done) | (simp_all [mkS, orS, fN, or_n0, ful, lsO, bst]; done) | fail | fail) (by omega) (by omega)
          ·
            refine g_iload h dX0_chosen_56 5 rfl ?_
            refine g_iload h dX0_chosen_58 6 rfl ?_
            refine g_iconst h dX0_chosen_60 (by decide) ?_
            refine g_cspi (rest := []) h (c_with hW s j true ) lX5_with mX0_37 (Nat.lt_of_lt_of_le (by decide) (Nat.le_refl _)) (by decide) rfl rfl rfl dX0_chosen_61 ?_
            refine g_top (y := (s ||| bt1 j)) rfl ?_
            refine g_istore (L' := [(0, .ref (w.1 6)), (1, .ref (w.1 (mc m 0))), (2, .int (nI i)), (3, .int (wil μ i)), (4, .int (bhd μ i)), (5, .int (s ||| bt1 j)), (6, .int (nI j))]) h dX0_chosen_64 rfl (by decide) rfl ?_
            refine g_iincN (b := 1) (L' := [(0, .ref (w.1 6)), (1, .ref (w.1 (mc m 0))), (2, .int (nI i)), (3, .int (wil μ i)), (4, .int (bhd μ i)), (5, .int (s ||| bt1 j)), (6, .int (nI (j + 1)))]) h dX0_chosen_66 6 rfl rfl (by decide) (by decide) rfl ?_
            refine g_goto h dX0_chosen_69 ?_
            exact ih26 (s ||| bt1 j) (j + 1) (by first | rfl | (simp [hs, mkS, orS, fN, or_n0, ful, lsO, bst, c32, c41, c53]; done) | (simp_all [mkS, orS, fN, or_n0, ful, lsO, bst]; done) | fail | fail) (by omega) (by omega)
  exact lp26 (_) (alo μ i (wil μ i) (bhd μ i)) 0 (by first | rfl | (simp [mkS, orS, fN, or_n0, ful, lsO, bst]; done) | fail | fail) (by omega) (Nat.lt_succ_self _)

set_option maxRecDepth 100000 in
set_option maxHeartbeats 4000000 in
theorem c_chosenByAll {l : Launch} {w : Wd} (hW : Wi w) {σ : Mem} (m : Nat) (μ : Nat → Int32) (hm : m < 6) (hv : vw (vb m) σ = μ) (hI : MI μ) : MC l w qX0_chosenByAll 4 [.ref (w.1 6), .ref (w.1 (mc m 0))] σ (some (.int (nI (smC μ (nN μ))))) (fun σ' => (∀ a, (a ≠ 15013 ∧ (a < 15100 ∨ 15108 ≤ a)) → σ' a = σ a)) := by
  refine MC.of hW (by decide +kernel) (Nat.le_of_ble_eq_true rfl) (fun X h hQ hnm => ?_)
  have h : Fx X w cX0_chosenByAll 4 RX0 4 := h
  have hQ : Qx X w (some .int) (some (.int (nI (smC μ (nN μ))))) (fun σ' => (∀ a, (a ≠ 15013 ∧ (a < 15100 ∨ 15108 ≤ a)) → σ' a = σ a)) := hQ
  have hN8 := mi_8 hI
  show G X w 4 0 [(0, .ref (w.1 6)), (1, .ref (w.1 (mc m 0)))] [] σ
  refine g_iconst h dX0_chosenByAll_0 (by decide) ?_
  refine g_istore_n (L' := [(0, .ref (w.1 6)), (1, .ref (w.1 (mc m 0))), (2, .int (nI 0))]) h dX0_chosenByAll_1 rfl (by decide) rfl ?_
  refine g_iconst h dX0_chosenByAll_2 (by decide) ?_
  refine g_istore_n (L' := [(0, .ref (w.1 6)), (1, .ref (w.1 (mc m 0))), (2, .int (nI 0)), (3, .int (nI 0))]) h dX0_chosenByAll_3 rfl (by decide) rfl ?_
  have lp4 : ∀ (k9 : Nat) (s : Nat) (j : Nat) (τ : Mem), (s = smC μ j) → (j ≤ nN μ) → (vw (vb m) τ = μ) → (∀ a, (a ≠ 15013 ∧ (a < 15100 ∨ 15108 ≤ a)) → τ a = σ a) → nN μ - j < k9 → G X w 4 4 [(0, .ref (w.1 6)), (1, .ref (w.1 (mc m 0))), (2, .int (nI s)), (3, .int (nI j))] [] (τ) := by
    intro k9
    induction k9 with
    | zero => intro s j τ hs hj hvτ hf hm9; exact absurd hm9 (Nat.not_lt_zero _)
    | succ k9 ih4 =>
      intro s j τ hs hj hvτ hf hm4
      refine g_iload_n h dX0_chosenByAll_4 3 rfl ?_
      refine g_aload_n h dX0_chosenByAll_5 1 rfl ?_
      refine g_geti h dX0_chosenByAll_6 gX0_15 (sM_0 (m := m) (by omega)) rfl ?_
      refine g_top (y := μ 0) (vw_pic (b := (vb m)) (k := 0) (by first | exact hvτ | assumption) (by omega)) ?_
      refine g_top (y := nI (nN μ)) (mi_0 (by assumption)) ?_
      refine g_icmpN_ge h dX0_chosenByAll_9 (by omega) (by omega) (fun c9 => ?_) (fun c9 => ?_)
      ·
        refine g_iload_n h dX0_chosenByAll_38 2 rfl ?_
        exact g_iret h hQ dX0_chosenByAll_39 (congrArg (fun z => some (Value.int z)) (show (nI (smC μ (nN μ))) = (nI s) by have e9 : j = nN μ := (by omega); subst e9; rw [hs])) (by exact hf)
      ·
        refine g_aload_n h dX0_chosenByAll_12 1 rfl ?_
        refine g_iload_n h dX0_chosenByAll_13 3 rfl ?_
        refine g_cvpi (rest := []) h (c_isOnJ hW j m μ (by first | omega | decide | fail) (by first | exact hvτ | assumption | fail) (by assumption) (by omega)) lX5_isOn mX0_71 (Nat.lt_of_lt_of_le (by decide) (Nat.le_refl _)) (by decide) (sM_0 (m := m) (by omega)) rfl rfl rfl rfl dX0_chosenByAll_14 ?_
        refine g_ifB_eq h dX0_chosenByAll_17 (fun c17 => ?_) (fun c17 => ?_)
        ·
          refine g_iincN (b := 1) (L' := [(0, .ref (w.1 6)), (1, .ref (w.1 (mc m 0))), (2, .int (nI s)), (3, .int (nI (j + 1)))]) h dX0_chosenByAll_32 3 rfl rfl (by decide) (by decide) rfl ?_
          refine g_goto h dX0_chosenByAll_35 ?_
          exact ih4 s (j + 1) (τ) (by simp [smC, ← hs, c9, c17]) (by omega) (by assumption) (by first | exact hf | (intro a ha; rw [eσd_b a ha]; exact hf a ha) | fail | fail) (by omega)
        ·
          refine g_iload_n h dX0_chosenByAll_20 2 rfl ?_
          refine g_aload_n h dX0_chosenByAll_21 0 rfl ?_
          refine g_aload_n h dX0_chosenByAll_22 1 rfl ?_
          refine g_iload_n h dX0_chosenByAll_23 3 rfl ?_
          refine g_cvi (rest := [.int (nI s)]) h (c_chosen hW j m μ (by first | omega | decide | fail) (by first | exact hvτ | assumption | fail) (by assumption) (by omega)) lX0_chosen mX0_75 (Nat.lt_of_lt_of_le (by decide) (Nat.le_refl _)) (by decide) sc_6 rfl rfl rfl rfl dX0_chosenByAll_24 (fun σd eσd => ?_)
          obtain ⟨eσd_a, eσd_b⟩ := eσd
          have eσd_a : PK μ j σd 15013 15100 := eσd_a
          have eσd_b : ∀ a, (a ≠ 15013 ∧ (a < 15100 ∨ 15108 ≤ a)) → σd a = (τ) a := eσd_b
          have hvσd : vw (vb m) σd = μ := by rw [vw_fr (σ := (τ)) (fun j _ _ => eσd_b _ (by first | omega | (simp only [vb] at *; omega)))]; first | exact hvτ | assumption
          have kk := sb_chos (i := j) hI
          refine g_cspi (rest := [.int (nI s)]) h (j_bc hW (chos μ j) (by first | assumption | exact sb_andl (by assumption) | fail)) lJ6_bitCount_0f7a4 mX0_66 (Nat.lt_of_lt_of_le (by decide) (Nat.le_refl _)) (by decide) rfl rfl rfl dX0_chosenByAll_27 ?_
          have p9_27 := pc_le (chos μ j)
          refine g_iaddN h dX0_chosenByAll_30  ?_
          refine g_istore_n (L' := [(0, .ref (w.1 6)), (1, .ref (w.1 (mc m 0))), (2, .int (nI (s + pc (chos μ j)))), (3, .int (nI j))]) h dX0_chosenByAll_31 rfl (by decide) rfl ?_
          refine g_iincN (b := 1) (L' := [(0, .ref (w.1 6)), (1, .ref (w.1 (mc m 0))), (2, .int (nI (s + pc (chos μ j)))), (3, .int (nI (j + 1)))]) h dX0_chosenByAll_32 3 rfl rfl (by decide) (by decide) rfl ?_
          refine g_goto h dX0_chosenByAll_35 ?_
          exact ih4 (s + pc (chos μ j)) (j + 1) σd (by simp [smC, ← hs, c9, c17]) (by omega) (by assumption) (by first | exact hf | (intro a ha; rw [eσd_b a ha]; exact hf a ha) | fail | fail) (by omega)
  exact lp4 (_) 0 0 σ (by rfl) (by omega) (by assumption) (by intro a _; rfl) (Nat.lt_succ_self _)
