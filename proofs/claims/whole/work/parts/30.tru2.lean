/-! the truth, the class's -/
def PRs (σ : Mem) (μ : Nat → Int32) : Prop := ∀ a, a < 8 → σ (15180 + a) = prS μ a
theorem PRs.fr {μ : Nat → Int32} {σ σ' : Mem} (h : PRs σ μ) (f : ∀ a, 15180 ≤ a → a < 15188 → σ' a = σ a) : PRs σ' μ := fun a ha => by
  rw [f _ (by omega) (by omega)]
  exact h a ha
def TR (σ : Mem) (μ : Nat → Int32) : Prop := σ 15030 = μ 1 ∧ PRs σ μ ∧ ∀ a, a < 8 → ∀ b, b < 8 → σ (15330 + (8 * a + b)) = nI (far μ a b)
theorem TR.fr {μ : Nat → Int32} {σ σ' : Mem} (h : TR σ μ) (f : ∀ a, 15030 ≤ a → a = 15030 ∨ (15180 ≤ a ∧ a < 15188) ∨ (15330 ≤ a ∧ a < 15394) → σ' a = σ a) : TR σ' μ := by
  refine ⟨by rw [f _ (by omega) (by omega)]; exact h.1, h.2.1.fr (fun a h1 h2 => f a (by omega) (by omega)), fun a ha b hb => ?_⟩
  rw [f _ (by omega) (by omega)]
  exact h.2.2 a ha b hb
/-- all that are reached, whoever they are -/
def ru8 (μ : Nat → Int32) (f : Nat) : Nat → Int32
  | 0 => bt1 f
  | n + 1 => ru8 μ f n ||| (prO μ (ru8 μ f n) &&& nots (ru8 μ f n))
theorem ru8_rch {μ : Nat → Int32} {f : Nat} (hI : MI μ) : ∀ n, ru8 μ f n = rch μ (μ 1) f n
  | 0 => rfl
  | n + 1 => by
    show ru8 μ f n ||| (prO μ (ru8 μ f n) &&& nots (ru8 μ f n)) = rch μ (μ 1) f n ||| (prO μ (rch μ (μ 1) f n) &&& μ 1)
    rw [ru8_rch hI n]
    apply tb_iff
    intro q
    by_cases hq : q < 32
    · rw [tb_or, tb_or, tb_and, tb_and, tb_nots hq]
      simp only [Bool.or_eq_true, Bool.and_eq_true, Bool.not_eq_true']
      constructor
      · rintro (h | ⟨h1, h2⟩)
        · exact Or.inl h
        · refine Or.inr ⟨h1, ?_⟩
          obtain ⟨a, _, h3⟩ := (tb_prO hI).mp h1
          unfold prB at h3
          simp only [Bool.and_eq_true] at h3
          exact h3.1.1.2
      · rintro (h | ⟨h1, h2⟩)
        · exact Or.inl h
        · cases c : tb (rch μ (μ 1) f n) q with
          | true => exact Or.inl rfl
          | false => exact Or.inr ⟨h1, rfl⟩
    · rw [tb_big (by omega), tb_big (by omega)]
theorem rch_mono {μ : Nat → Int32} {st : Int32} {f q n : Nat} : ∀ k, tb (rch μ st f n) q = true → tb (rch μ st f (n + k)) q = true
  | 0, h => h
  | k + 1, h => by
    show tb (rch μ st f (n + k) ||| _) q = true
    rw [tb_or, rch_mono k h]
    rfl
/-- the fewest steps, of n tried -/
def fv (μ : Nat → Int32) (f t n : Nat) : Nat := o0 (fs (fun k => tb (rch μ (μ 1) f k) t) n)
theorem fv_1 {μ : Nat → Int32} {f t : Nat} : fv μ f t 1 = 0 := by
  unfold fv
  simp only [fs]
  split <;> rfl
theorem fv_s {μ : Nat → Int32} {f t n : Nat} (hI : MI μ) : fv μ f t (n + 2) = if tb (prO μ (rch μ (μ 1) f n) &&& nots (rch μ (μ 1) f n)) t = true then n + 1 else fv μ f t (n + 1) := by
  by_cases ht : t < 32
  · rw [tb_and, tb_nots ht]
    by_cases c : tb (rch μ (μ 1) f n) t = true
    · rw [c]
      rw [if_neg (by simp)]
      unfold fv
      rw [show n + 2 = (n + 1) + 1 from rfl]
      cases e : fs (fun k => tb (rch μ (μ 1) f k) t) (n + 1) with
      | some v => simp only [fs] at e ⊢; rw [e]
      | none =>
        have := fs_no e n (by omega)
        rw [c] at this
        cases this
    · have c' : tb (rch μ (μ 1) f n) t = false := by simpa using c
      have hno : ∀ x, x < n + 1 → tb (rch μ (μ 1) f x) t = false := fun x hx => by
        cases q : tb (rch μ (μ 1) f x) t with
        | false => rfl
        | true =>
          have := rch_mono (n - x) q
          rw [show x + (n - x) = n from by omega, c'] at this
          cases this
      rw [c']
      simp only [Bool.not_false, Bool.and_true]
      have en : tb (rch μ (μ 1) f (n + 1)) t = tb (prO μ (rch μ (μ 1) f n)) t := by
        rw [← ru8_rch hI]
        show tb (ru8 μ f n ||| (prO μ (ru8 μ f n) &&& nots (ru8 μ f n))) t = _
        rw [ru8_rch hI, tb_or, tb_and, tb_nots ht, c']
        simp
      by_cases d : tb (prO μ (rch μ (μ 1) f n)) t = true
      · rw [if_pos d]
        unfold fv
        rw [fs_here (n := n + 1) hno (by rw [en]; exact d) (n + 2) (by omega)]
        rfl
      · rw [if_neg d]
        have d' : tb (prO μ (rch μ (μ 1) f n)) t = false := by simpa using d
        unfold fv
        rw [fs_none (n := n + 2), fs_none (n := n + 1) hno]
        intro x hx
        by_cases e : x = n + 1
        · subst e
          rw [en]
          exact d'
        · exact hno x (by omega)
  · rw [tb_big (by omega), if_neg (by decide)]
    unfold fv
    rw [fs_none, fs_none]
    · intro x _
      exact tb_big (by omega)
    · intro x _
      exact tb_big (by omega)
theorem fv_lt {μ : Nat → Int32} {f t n : Nat} (hn : 0 < n) : fv μ f t n < n := by
  unfold fv
  cases e : fs (fun k => tb (rch μ (μ 1) f k) t) n with
  | none => exact hn
  | some v => exact (fs_lt e).1
def MR (σ : Mem) (μ : Nat → Int32) (f k : Nat) : Prop := ∀ t, t < 8 → σ (15330 + (8 * f + t)) = nI (fv μ f t k)
theorem mr_set {μ : Nat → Int32} {f k t : Nat} {more : Int32} {τ σ' σ0 : Mem} (hf : f < 8) (ht : t < 8) (h : ∀ q, q < 8 → τ (15330 + (8 * f + q)) = nI (if q < t then fv μ f q (k + 1) else fv μ f q k)) (e : σ' = upd τ (15330 + (8 * f + t)) (nI k)) (hk : fv μ f t (k + 1) = k) : ∀ q, q < 8 → σ' (15330 + (8 * f + q)) = nI (if q < t + 1 then fv μ f q (k + 1) else fv μ f q k) := fun q hq => by
  by_cases c : q = t
  · subst c
    rw [e, upd_eq, if_pos (by omega), hk]
  · rw [e, upd_ne (by omega), h q hq]
    by_cases c2 : q < t
    · rw [if_pos c2, if_pos (by omega)]
    · rw [if_neg c2, if_neg (by omega)]
theorem mr_no {μ : Nat → Int32} {f k t : Nat} {τ : Mem} (h : ∀ q, q < 8 → τ (15330 + (8 * f + q)) = nI (if q < t then fv μ f q (k + 1) else fv μ f q k)) (hk : fv μ f t (k + 1) = fv μ f t k) : ∀ q, q < 8 → τ (15330 + (8 * f + q)) = nI (if q < t + 1 then fv μ f q (k + 1) else fv μ f q k) := fun q hq => by
  rw [h q hq]
  by_cases c : q = t
  · subst c
    rw [if_neg (by omega), if_pos (by omega), hk]
  · by_cases c2 : q < t
    · rw [if_pos c2, if_pos (by omega)]
    · rw [if_neg c2, if_neg (by omega)]

set_option maxRecDepth 100000 in
set_option maxHeartbeats 4000000 in
theorem c_pairsOf {l : Launch} {w : Wd} (hW : Wi w) {σ : Mem} (z : Int32) (μ : Nat → Int32) (hcPR_σ : PRs σ μ) : MC l w qX10_pairsOf 1 [.ref (w.1 25), .int z] σ (some (.int (prO μ z))) (fun σ' => σ' = σ) := by
  refine MC.of hW (by decide +kernel) (Nat.le_of_ble_eq_true rfl) (fun X h hQ hnm => ?_)
  have h : Fx X w cX10_pairsOf 4 RX10 1 := h
  have hQ : Qx X w (some .int) (some (.int (prO μ z))) (fun σ' => σ' = σ) := hQ
  show G X w 4 0 [(0, .ref (w.1 25)), (1, .int z)] [] σ
  refine g_iconst h dX10_pairsOf_0 (by decide) ?_
  refine g_istore_n (L' := [(0, .ref (w.1 25)), (1, .int z), (2, .int (nI 0))]) h dX10_pairsOf_1 rfl (by decide) rfl ?_
  refine g_iconst h dX10_pairsOf_2 (by decide) ?_
  refine g_istore_n (L' := [(0, .ref (w.1 25)), (1, .int z), (2, .int (nI 0)), (3, .int (nI 0))]) h dX10_pairsOf_3 rfl (by decide) rfl ?_
  have lp4 : ∀ (k9 : Nat) (s : Int32) (j : Nat), (s = orS (fun a => if tb z a = true then prS μ a else nI 0) j) → (j ≤ 8) → 8 - j < k9 → G X w 4 4 [(0, .ref (w.1 25)), (1, .int z), (2, .int s), (3, .int (nI j))] [] σ := by
    intro k9
    induction k9 with
    | zero => intro s j hs hj hm9; exact absurd hm9 (Nat.not_lt_zero _)
    | succ k9 ih4 =>
      intro s j hs hj hm4
      refine g_iload_n h dX10_pairsOf_4 3 rfl ?_
      refine g_bipush h dX10_pairsOf_5 (by decide) ?_
      refine g_icmpN_ge h dX10_pairsOf_7 (by omega) (by omega) (fun c7 => ?_) (fun c7 => ?_)
      ·
        refine g_iload_n h dX10_pairsOf_33 2 rfl ?_
        exact g_iret h hQ dX10_pairsOf_34 (congrArg (fun z => some (Value.int z)) (show (prO μ z) = s by have e9 : j = 8 := (by omega); subst e9; exact hs.symm)) rfl
      ·
        refine g_iload_n h dX10_pairsOf_10 1 rfl ?_
        refine g_iload_n h dX10_pairsOf_11 3 rfl ?_
        refine g_cspi (rest := []) h (c_has hW z j (by omega)) lX5_has mX10_28 (Nat.lt_of_lt_of_le (by decide) (Nat.le_refl _)) (by decide) rfl rfl rfl dX10_pairsOf_12 ?_
        refine g_ifB_eq h dX10_pairsOf_15 (fun c15 => ?_) (fun c15 => ?_)
        ·
          refine g_iincN (b := 1) (L' := [(0, .ref (w.1 25)), (1, .int z), (2, .int s), (3, .int (nI (j + 1)))]) h dX10_pairsOf_27 3 rfl rfl (by decide) (by decide) rfl ?_
          refine g_goto h dX10_pairsOf_30 ?_
          exact ih4 s (j + 1) (by first | rfl | (simp [hs, mkS, orS, fN, or_n0, ful, lsO, bst, c7, c15]; done) | (simp_all [mkS, orS, fN, or_n0, ful, lsO, bst]; done) | fail | fail) (by omega) (by omega)
        ·
          refine g_iload_n h dX10_pairsOf_18 2 rfl ?_
          refine g_aload_n h dX10_pairsOf_19 0 rfl ?_
          refine g_getr h dX10_pairsOf_20 gX10_9 sc_25 rfl ?_
          refine g_iload_n h dX10_pairsOf_23 3 rfl ?_
          refine g_iald h dX10_pairsOf_24 sc_26 (by omega) ?_
          refine g_top (y := (prS μ j)) (hcPR_σ j (by omega)) ?_
          refine g_ior h dX10_pairsOf_25  ?_
          refine g_istore_n (L' := [(0, .ref (w.1 25)), (1, .int z), (2, .int (s ||| (prS μ j))), (3, .int (nI j))]) h dX10_pairsOf_26 rfl (by decide) rfl ?_
          refine g_iincN (b := 1) (L' := [(0, .ref (w.1 25)), (1, .int z), (2, .int (s ||| (prS μ j))), (3, .int (nI (j + 1)))]) h dX10_pairsOf_27 3 rfl rfl (by decide) (by decide) rfl ?_
          refine g_goto h dX10_pairsOf_30 ?_
          exact ih4 (s ||| (prS μ j)) (j + 1) (by first | rfl | (simp [hs, mkS, orS, fN, or_n0, ful, lsO, bst, c7, c15]; done) | (simp_all [mkS, orS, fN, or_n0, ful, lsO, bst]; done) | fail | fail) (by omega) (by omega)
  exact lp4 (_) (nI 0) 0 (by first | rfl | (simp [mkS, orS, fN, or_n0, ful, lsO, bst]; done) | fail | fail) (by omega) (Nat.lt_succ_self _)

set_option maxRecDepth 100000 in
set_option maxHeartbeats 4000000 in
theorem c_measure {l : Launch} {w : Wd} (hW : Wi w) {σ : Mem} (f : Nat) (μ : Nat → Int32) (hI : MI μ) (hf : f < 8) (hcPR_σ : PRs σ μ) : MC l w qX10_measure 2 [.ref (w.1 25), .int (nI f)] σ none (fun σ' => (PRs σ' μ) ∧ (∀ q, q < 8 → σ' (15330 + (8 * f + q)) = nI (far μ f q)) ∧ (∀ a, (a < 15330 + 8 * f ∨ 15338 + 8 * f ≤ a) → σ' a = σ a)) := by
  refine MC.of hW (by decide +kernel) (Nat.le_of_ble_eq_true rfl) (fun X h hQ hnm => ?_)
  have h : Fx X w cX10_measure 6 RX10 2 := h
  have hQ : Qx X w none none (fun σ' => (PRs σ' μ) ∧ (∀ q, q < 8 → σ' (15330 + (8 * f + q)) = nI (far μ f q)) ∧ (∀ a, (a < 15330 + 8 * f ∨ 15338 + 8 * f ≤ a) → σ' a = σ a)) := hQ
  have hcFR_σ : ∀ a, (a < 15330 + 8 * f ∨ 15338 + 8 * f ≤ a) → σ a = σ a := fun _ _ => rfl
  show G X w 6 0 [(0, .ref (w.1 25)), (1, .int (nI f))] [] σ
  refine g_iload_n h dX10_measure_0 1 rfl ?_
  refine g_cspi (rest := []) h (c_bit hW f ) lX5_bit mX10_40 (Nat.lt_of_lt_of_le (by decide) (Nat.le_refl _)) (by decide) rfl rfl rfl dX10_measure_1 ?_
  refine g_istore_n (L' := [(0, .ref (w.1 25)), (1, .int (nI f)), (2, .int (bt1 f))]) h dX10_measure_4 rfl (by decide) rfl ?_
  refine g_iconst h dX10_measure_5 (by decide) ?_
  refine g_istore_n (L' := [(0, .ref (w.1 25)), (1, .int (nI f)), (2, .int (bt1 f)), (3, .int (nI 0))]) h dX10_measure_6 rfl (by decide) rfl ?_
  have lp7 : ∀ (k9 : Nat) (t : Nat) (τ : Mem), (t ≤ 8) → (∀ q, q < t → τ (15330 + (8 * f + q)) = nI 0) → (PRs τ μ) → (∀ a, (a < 15330 + 8 * f ∨ 15338 + 8 * f ≤ a) → τ a = σ a) → 8 - t < k9 → G X w 6 7 [(0, .ref (w.1 25)), (1, .int (nI f)), (2, .int (bt1 f)), (3, .int (nI t))] [] (τ) := by
    intro k9
    induction k9 with
    | zero => intro t τ ht hz hcPR_τ hcFR_τ hm9; exact absurd hm9 (Nat.not_lt_zero _)
    | succ k9 ih7 =>
      intro t τ ht hz hcPR_τ hcFR_τ hm7
      refine g_iload_n h dX10_measure_7 3 rfl ?_
      refine g_bipush h dX10_measure_8 (by decide) ?_
      refine g_icmpN_ge h dX10_measure_10 (by omega) (by omega) (fun c10 => ?_) (fun c10 => ?_)
      ·
        refine g_iconst h dX10_measure_30 (by decide) ?_
        refine g_istore_n (L' := [(0, .ref (w.1 25)), (1, .int (nI f)), (2, .int (bt1 f)), (3, .int (nI 1))]) h dX10_measure_31 rfl (by decide) rfl ?_
        have lp32 : ∀ (k9 : Nat) (s : Int32) (τ2 : Mem) (k : Nat), (k ≤ 7) → (s = rch μ (μ 1) f k) → (∀ q, q < 8 → τ2 (15330 + (8 * f + q)) = nI (fv μ f q (k + 1))) → (PRs τ2 μ) → (∀ a, (a < 15330 + 8 * f ∨ 15338 + 8 * f ≤ a) → τ2 a = σ a) → 7 - k < k9 → G X w 6 32 [(0, .ref (w.1 25)), (1, .int (nI f)), (2, .int s), (3, .int (nI (k + 1)))] [] (τ2) := by
          intro k9
          induction k9 with
          | zero => intro s τ2 k hk hs hr hcPR_τ2 hcFR_τ2 hm9; exact absurd hm9 (Nat.not_lt_zero _)
          | succ k9 ih32 =>
            intro s τ2 k hk hs hr hcPR_τ2 hcFR_τ2 hm32
            refine g_iload_n h dX10_measure_32 3 rfl ?_
            refine g_bipush h dX10_measure_33 (by decide) ?_
            refine g_icmpN_ge h dX10_measure_35 (by omega) (by omega) (fun c35 => ?_) (fun c35 => ?_)
            ·
              exact g_vret h hQ dX10_measure_98 rfl (by exact ⟨(by first | exact hcPR_τ2 | assumption | fail), (by intro q hq; rw [hr q hq, show k + 1 = 8 from by omega]; rfl), (by exact hcFR_τ2)⟩)
            ·
              refine g_aload_n h dX10_measure_38 0 rfl ?_
              refine g_iload_n h dX10_measure_39 2 rfl ?_
              refine g_cvpi (rest := []) h (c_pairsOf hW s μ (by first | exact hcPR_τ2 | assumption | fail)) lX10_pairsOf mX10_48 (Nat.lt_of_lt_of_le (by decide) (Nat.le_refl _)) (by decide) sc_25 rfl rfl rfl rfl dX10_measure_40 ?_
              refine g_iload_n h dX10_measure_43 2 rfl ?_
              refine g_iconstv h dX10_measure_44 (v := (-1)) (by decide) ?_
              refine g_ixor h dX10_measure_45  ?_
              refine g_top (y := nots s) rfl ?_
              refine g_iand h dX10_measure_46  ?_
              refine g_top (y := (prO μ s &&& nots s)) rfl ?_
              refine g_istore (L' := [(0, .ref (w.1 25)), (1, .int (nI f)), (2, .int s), (3, .int (nI (k + 1))), (4, .int (prO μ s &&& nots s))]) h dX10_measure_47 rfl (by decide) rfl ?_
              refine g_iconst h dX10_measure_49 (by decide) ?_
              refine g_istore (L' := [(0, .ref (w.1 25)), (1, .int (nI f)), (2, .int s), (3, .int (nI (k + 1))), (4, .int (prO μ s &&& nots s)), (5, .int (nI 0))]) h dX10_measure_50 rfl (by decide) rfl ?_
              have lp52 : ∀ (k9 : Nat) (t2 : Nat) (τ3 : Mem), (t2 ≤ 8) → (∀ q, q < 8 → τ3 (15330 + (8 * f + q)) = nI (if q < t2 then fv μ f q (k + 1 + 1) else fv μ f q (k + 1))) → (PRs τ3 μ) → (∀ a, (a < 15330 + 8 * f ∨ 15338 + 8 * f ≤ a) → τ3 a = σ a) → 8 - t2 < k9 → G X w 6 52 [(0, .ref (w.1 25)), (1, .int (nI f)), (2, .int s), (3, .int (nI (k + 1))), (4, .int (prO μ s &&& nots s)), (5, .int (nI t2))] [] (τ3) := by
                intro k9
                induction k9 with
                | zero => intro t2 τ3 ht2 hr2 hcPR_τ3 hcFR_τ3 hm9; exact absurd hm9 (Nat.not_lt_zero _)
                | succ k9 ih52 =>
                  intro t2 τ3 ht2 hr2 hcPR_τ3 hcFR_τ3 hm52
                  refine g_iload h dX10_measure_52 5 rfl ?_
                  refine g_bipush h dX10_measure_54 (by decide) ?_
                  refine g_icmpN_ge h dX10_measure_56 (by omega) (by omega) (fun c56 => ?_) (fun c56 => ?_)
                  ·
                    refine g_iload_n h dX10_measure_87 2 rfl ?_
                    refine g_iload h dX10_measure_88 4 rfl ?_
                    refine g_ior h dX10_measure_90  ?_
                    refine g_istore_n (L' := [(0, .ref (w.1 25)), (1, .int (nI f)), (2, .int (s ||| (prO μ s &&& nots s))), (3, .int (nI (k + 1))), (4, .int (prO μ s &&& nots s)), (5, .int (nI t2))]) h dX10_measure_91 rfl (by decide) rfl ?_
                    refine g_iincN (b := 1) (L' := [(0, .ref (w.1 25)), (1, .int (nI f)), (2, .int (s ||| (prO μ s &&& nots s))), (3, .int (nI (k + 1 + 1))), (4, .int (prO μ s &&& nots s)), (5, .int (nI t2))]) h dX10_measure_92 3 rfl rfl (by decide) (by decide) rfl ?_
                    refine g_goto h dX10_measure_95 ?_
                    exact g_sub [0, 1, 2, 3] rfl (ih32 (s ||| (prO μ s &&& nots s)) (τ3) (k + 1) (by omega) (by rw [hs, ← ru8_rch hI, ← ru8_rch hI]; rfl) (by intro q hq; rw [hr2 q hq, if_pos (by omega)]) (by first | exact hcPR_τ3 | assumption | fail | fail) (by first | exact hcFR_τ3 | assumption | fail | fail) (by omega))
                  ·
                    refine g_iload h dX10_measure_59 4 rfl ?_
                    refine g_iload h dX10_measure_61 5 rfl ?_
                    refine g_cspi (rest := []) h (c_has hW (prO μ s &&& nots s) t2 (by omega)) lX5_has mX10_28 (Nat.lt_of_lt_of_le (by decide) (Nat.le_refl _)) (by decide) rfl rfl rfl dX10_measure_63 ?_
                    refine g_ifB_eq h dX10_measure_66 (fun c66 => ?_) (fun c66 => ?_)
                    ·
                      refine g_iincN (b := 1) (L' := [(0, .ref (w.1 25)), (1, .int (nI f)), (2, .int s), (3, .int (nI (k + 1))), (4, .int (prO μ s &&& nots s)), (5, .int (nI (t2 + 1)))]) h dX10_measure_81 5 rfl rfl (by decide) (by decide) rfl ?_
                      refine g_goto h dX10_measure_84 ?_
                      exact ih52 (t2 + 1) (τ3) (by omega) (by first | exact mr_set (more := nI 0) (σ0 := σ) hf (by omega) hr2 eσb (by rw [fv_s hI, if_pos (by rw [← hs]; exact c66)]) | exact mr_no hr2 (by rw [fv_s hI, if_neg (by rw [← hs, c66]; decide)]) | fail | fail) (by first | exact hcPR_τ3 | assumption | fail | fail) (by first | exact hcFR_τ3 | assumption | fail | fail) (by omega)
                    ·
                      refine g_aload_n h dX10_measure_69 0 rfl ?_
                      refine g_getr h dX10_measure_70 gX10_15 sc_25 rfl ?_
                      refine g_iload_n h dX10_measure_73 1 rfl ?_
                      refine g_iload h dX10_measure_74 5 rfl ?_
                      refine g_cspi (rest := [.ref (w.1 27)]) h (c_at hW f t2 ) lX5_at mX10_44 (Nat.lt_of_lt_of_le (by decide) (Nat.le_refl _)) (by decide) rfl rfl rfl dX10_measure_76 ?_
                      refine g_iload_n h dX10_measure_79 3 rfl ?_
                      refine g_iast h dX10_measure_80 sc_27 (by omega) ?_
                      refine g_nm (fun σb eσb => ?_)
                      have eσb : σb = upd (τ3) (15330 + (8 * f + t2)) (nI (k + 1)) := eσb
                      have hcPR_σb : PRs σb μ := by rw [eσb]; exact PRs.fr hcPR_τ3 (fun a ha hb => upd_ne (by first | omega | (simp only [vb] at *; omega)))
                      have hcFR_σb : ∀ a, (a < 15330 + 8 * f ∨ 15338 + 8 * f ≤ a) → σb a = σ a := by intro a ha; exact Eq.trans (b := (τ3) a) (by rw [eσb, upd_ne (by first | omega | (simp only [vb] at *; omega))]) (hcFR_τ3 a ha)
                      refine g_iincN (b := 1) (L' := [(0, .ref (w.1 25)), (1, .int (nI f)), (2, .int s), (3, .int (nI (k + 1))), (4, .int (prO μ s &&& nots s)), (5, .int (nI (t2 + 1)))]) h dX10_measure_81 5 rfl rfl (by decide) (by decide) rfl ?_
                      refine g_goto h dX10_measure_84 ?_
                      exact ih52 (t2 + 1) σb (by omega) (by first | exact mr_set (more := nI 0) (σ0 := σ) hf (by omega) hr2 eσb (by rw [fv_s hI, if_pos (by rw [← hs]; exact c66)]) | exact mr_no hr2 (by rw [fv_s hI, if_neg (by rw [← hs, c66]; decide)]) | fail | fail) (by first | exact hcPR_σb | assumption | fail | fail) (by first | exact hcFR_σb | assumption | fail | fail) (by omega)
              exact lp52 (_) 0 (τ2) (by omega) (by intro q hq; rw [if_neg (by omega)]; exact hr q hq) (by first | exact hcPR_τ2 | assumption | fail | fail) (by first | exact hcFR_τ2 | assumption | fail | fail) (Nat.lt_succ_self _)
        exact lp32 (_) (bt1 f) (τ) 0 (by omega) (by rfl) (by intro q hq; rw [fv_1]; exact hz q (by omega)) (by first | exact hcPR_τ | assumption | fail | fail) (by first | exact hcFR_τ | assumption | fail | fail) (Nat.lt_succ_self _)
      ·
        refine g_aload_n h dX10_measure_13 0 rfl ?_
        refine g_getr h dX10_measure_14 gX10_15 sc_25 rfl ?_
        refine g_iload_n h dX10_measure_17 1 rfl ?_
        refine g_iload_n h dX10_measure_18 3 rfl ?_
        refine g_cspi (rest := [.ref (w.1 27)]) h (c_at hW f t ) lX5_at mX10_44 (Nat.lt_of_lt_of_le (by decide) (Nat.le_refl _)) (by decide) rfl rfl rfl dX10_measure_19 ?_
        refine g_iconst h dX10_measure_22 (by decide) ?_
        refine g_iast h dX10_measure_23 sc_27 (by omega) ?_
        refine g_nm (fun σa eσa => ?_)
        have eσa : σa = upd (τ) (15330 + (8 * f + t)) (nI 0) := eσa
        have hcPR_σa : PRs σa μ := by rw [eσa]; exact PRs.fr hcPR_τ (fun a ha hb => upd_ne (by first | omega | (simp only [vb] at *; omega)))
        have hcFR_σa : ∀ a, (a < 15330 + 8 * f ∨ 15338 + 8 * f ≤ a) → σa a = σ a := by intro a ha; exact Eq.trans (b := (τ) a) (by rw [eσa, upd_ne (by first | omega | (simp only [vb] at *; omega))]) (hcFR_τ a ha)
        refine g_iincN (b := 1) (L' := [(0, .ref (w.1 25)), (1, .int (nI f)), (2, .int (bt1 f)), (3, .int (nI (t + 1)))]) h dX10_measure_24 3 rfl rfl (by decide) (by decide) rfl ?_
        refine g_goto h dX10_measure_27 ?_
        exact ih7 (t + 1) σa (by omega) (by intro q hq; exact if e9 : q = t then (by rw [e9, eσa]; exact upd_eq) else (by rw [eσa, upd_ne (by omega)]; exact hz q (by omega))) (by first | exact hcPR_σa | assumption | fail | fail) (by first | exact hcFR_σa | assumption | fail | fail) (by omega)
  exact lp7 (_) 0 σ (by omega) (by intro q hq; omega) (by first | exact hcPR_σ | assumption | fail | fail) (by first | exact hcFR_σ | assumption | fail | fail) (Nat.lt_succ_self _)

set_option maxRecDepth 100000 in
set_option maxHeartbeats 4000000 in
theorem c_see {l : Launch} {w : Wd} (hW : Wi w) {σ : Mem} (m : Nat) (μ : Nat → Int32) (hm : m < 6) (hv : vw (vb m) σ = μ) (hI : MI μ) : MC l w qX10_see 3 [.ref (w.1 25), .ref (w.1 (mc m 0))] σ none (fun σ' => (TR σ' μ) ∧ (∀ a, (a ≠ 15030 ∧ (a < 15180 ∨ 15188 ≤ a) ∧ (a < 15330 ∨ 15394 ≤ a)) → σ' a = σ a)) := by
  refine MC.of hW (by decide +kernel) (Nat.le_of_ble_eq_true rfl) (fun X h hQ hnm => ?_)
  have h : Fx X w cX10_see 5 RX10 3 := h
  have hQ : Qx X w none none (fun σ' => (TR σ' μ) ∧ (∀ a, (a ≠ 15030 ∧ (a < 15180 ∨ 15188 ≤ a) ∧ (a < 15330 ∨ 15394 ≤ a)) → σ' a = σ a)) := hQ
  have hN8 := mi_8 hI
  have hcFR_σ : ∀ a, (a ≠ 15030 ∧ (a < 15180 ∨ 15188 ≤ a) ∧ (a < 15330 ∨ 15394 ≤ a)) → σ a = σ a := fun _ _ => rfl
  show G X w 5 0 [(0, .ref (w.1 25)), (1, .ref (w.1 (mc m 0)))] [] σ
  refine g_aload_n h dX10_see_0 0 rfl ?_
  refine g_aload_n h dX10_see_1 1 rfl ?_
  refine g_geti h dX10_see_2 gX10_18 (sM_0 (m := m) (by omega)) rfl ?_
  refine g_top (y := μ 1) (vw_pic (b := (vb m)) (k := 1) (by first | exact hv | assumption) (by omega)) ?_
  refine g_puti h dX10_see_5 pX10_24 sc_25 rfl ?_
  refine g_nm (fun σo eσo => ?_)
  have eσo : σo = upd σ 15030 (μ 1) := eσo
  have ht15030_σo : σo 15030 = (μ 1) := by rw [eσo]; exact upd_eq
  have hcFR_σo : ∀ a, (a ≠ 15030 ∧ (a < 15180 ∨ 15188 ≤ a) ∧ (a < 15330 ∨ 15394 ≤ a)) → σo a = σ a := by intro a ha; exact Eq.trans (b := σ a) (by rw [eσo, upd_ne (by first | omega | (simp only [vb] at *; omega))]) (hcFR_σ a ha)
  have hvσo : vw (vb m) σo = μ := by rw [eσo, vw_out (by first | omega | (simp only [vb] at *; omega))]; first | exact hv | assumption
  refine g_iconst h dX10_see_8 (by decide) ?_
  refine g_istore_n (L' := [(0, .ref (w.1 25)), (1, .ref (w.1 (mc m 0))), (2, .int (nI 0))]) h dX10_see_9 rfl (by decide) rfl ?_
  have lp10 : ∀ (k9 : Nat) (i : Nat) (τ : Mem), (i ≤ 8) → (∀ q, q < i → τ (15180 + q) = prS μ q) → (vw (vb m) τ = μ) → (τ 15030 = (μ 1)) → (∀ a, (a ≠ 15030 ∧ (a < 15180 ∨ 15188 ≤ a) ∧ (a < 15330 ∨ 15394 ≤ a)) → τ a = σ a) → 8 - i < k9 → G X w 5 10 [(0, .ref (w.1 25)), (1, .ref (w.1 (mc m 0))), (2, .int (nI i))] [] (τ) := by
    intro k9
    induction k9 with
    | zero => intro i τ hi hp hvτ ht15030_τ hcFR_τ hm9; exact absurd hm9 (Nat.not_lt_zero _)
    | succ k9 ih10 =>
      intro i τ hi hp hvτ ht15030_τ hcFR_τ hm10
      refine g_iload_n h dX10_see_10 2 rfl ?_
      refine g_bipush h dX10_see_11 (by decide) ?_
      refine g_icmpN_ge h dX10_see_13 (by omega) (by omega) (fun c13 => ?_) (fun c13 => ?_)
      ·
        have hcPR_τ : PRs τ μ := fun a ha => hp a (by omega)
        refine g_iconst h dX10_see_124 (by decide) ?_
        refine g_istore_n (L' := [(0, .ref (w.1 25)), (1, .ref (w.1 (mc m 0))), (2, .int (nI 0))]) h dX10_see_125 rfl (by decide) rfl ?_
        have lp126 : ∀ (k9 : Nat) (f : Nat) (τ3 : Mem), (f ≤ 8) → (∀ a, a < f → ∀ b, b < 8 → τ3 (15330 + (8 * a + b)) = nI (far μ a b)) → (vw (vb m) τ3 = μ) → (τ3 15030 = (μ 1)) → (∀ a, (a ≠ 15030 ∧ (a < 15180 ∨ 15188 ≤ a) ∧ (a < 15330 ∨ 15394 ≤ a)) → τ3 a = σ a) → (PRs τ3 μ) → 8 - f < k9 → G X w 5 126 [(0, .ref (w.1 25)), (1, .ref (w.1 (mc m 0))), (2, .int (nI f))] [] (τ3) := by
          intro k9
          induction k9 with
          | zero => intro f τ3 hf hm2 hvτ3 ht15030_τ3 hcFR_τ3 hcPR_τ3 hm9; exact absurd hm9 (Nat.not_lt_zero _)
          | succ k9 ih126 =>
            intro f τ3 hf hm2 hvτ3 ht15030_τ3 hcFR_τ3 hcPR_τ3 hm126
            refine g_iload_n h dX10_see_126 2 rfl ?_
            refine g_bipush h dX10_see_127 (by decide) ?_
            refine g_icmpN_ge h dX10_see_129 (by omega) (by omega) (fun c129 => ?_) (fun c129 => ?_)
            ·
              exact g_vret h hQ dX10_see_143 rfl (by exact ⟨(by exact ⟨ht15030_τ3, hcPR_τ3, fun a ha => hm2 a (by omega)⟩), (by exact hcFR_τ3)⟩)
            ·
              refine g_aload_n h dX10_see_132 0 rfl ?_
              refine g_iload_n h dX10_see_133 2 rfl ?_
              refine g_cvv (rest := []) h (c_measure hW f μ (by first | exact hI | assumption | fail) (by omega) (by first | exact hcPR_τ3 | assumption | fail)) lX10_measure mX10_36 (Nat.lt_of_lt_of_le (by decide) (Nat.le_refl _)) (by decide) sc_25 rfl rfl rfl rfl dX10_see_134 (fun σm eσm => ?_)
              obtain ⟨eσm_a, eσm_b, eσm_c⟩ := eσm
              have eσm_a : PRs σm μ := eσm_a
              have eσm_b : ∀ q, q < 8 → σm (15330 + (8 * f + q)) = nI (far μ f q) := eσm_b
              have eσm_c : ∀ a, (a < 15330 + 8 * f ∨ 15338 + 8 * f ≤ a) → σm a = (τ3) a := eσm_c
              have ht15030_σm : σm 15030 = (μ 1) := by rw [eσm_c _ (by first | omega | (simp only [vb] at *; omega))]; first | exact ht15030_τ3 | assumption
              have hcFR_σm : ∀ a, (a ≠ 15030 ∧ (a < 15180 ∨ 15188 ≤ a) ∧ (a < 15330 ∨ 15394 ≤ a)) → σm a = σ a := by intro a ha; exact Eq.trans (b := (τ3) a) (eσm_c a (by first | omega | (simp only [vb] at *; omega))) (hcFR_τ3 a ha)
              have hcPR_σm : PRs σm μ := eσm_a
              have hvσm : vw (vb m) σm = μ := by rw [vw_fr (σ := (τ3)) (fun j _ _ => eσm_c _ (by first | omega | (simp only [vb] at *; omega)))]; first | exact hvτ3 | assumption
              refine g_iincN (b := 1) (L' := [(0, .ref (w.1 25)), (1, .ref (w.1 (mc m 0))), (2, .int (nI (f + 1)))]) h dX10_see_137 2 rfl rfl (by decide) (by decide) rfl ?_
              refine g_goto h dX10_see_140 ?_
              exact ih126 (f + 1) σm (by omega) (by intro a ha b hb; exact if e9 : a = f then (by rw [e9]; exact eσm_b b hb) else (by rw [eσm_c _ (by omega)]; exact hm2 a (by omega) b hb)) (by first | exact hvσm | assumption | fail | fail) (by first | exact ht15030_σm | assumption | fail | fail) (by first | exact hcFR_σm | assumption | fail | fail) (by first | exact hcPR_σm | assumption | fail | fail) (by omega)
        exact lp126 (_) 0 (τ) (by omega) (by intro a ha; omega) (by first | exact hvτ | assumption | fail | fail) (by first | exact ht15030_τ | assumption | fail | fail) (by first | exact hcFR_τ | assumption | fail | fail) (by first | exact hcPR_τ | assumption | fail | fail) (Nat.lt_succ_self _)
      ·
        refine g_aload_n h dX10_see_16 0 rfl ?_
        refine g_getr h dX10_see_17 gX10_9 sc_25 rfl ?_
        refine g_iload_n h dX10_see_20 2 rfl ?_
        refine g_iconst h dX10_see_21 (by decide) ?_
        refine g_iast h dX10_see_22 sc_26 (by omega) ?_
        refine g_nm (fun σa eσa => ?_)
        have eσa : σa = upd (τ) (15180 + i) (nI 0) := eσa
        have ht15030_σa : σa 15030 = (μ 1) := by rw [eσa, upd_ne (by first | omega | (simp only [vb] at *; omega))]; first | exact ht15030_τ | assumption
        have hcFR_σa : ∀ a, (a ≠ 15030 ∧ (a < 15180 ∨ 15188 ≤ a) ∧ (a < 15330 ∨ 15394 ≤ a)) → σa a = σ a := by intro a ha; exact Eq.trans (b := (τ) a) (by rw [eσa, upd_ne (by first | omega | (simp only [vb] at *; omega))]) (hcFR_τ a ha)
        have hvσa : vw (vb m) σa = μ := by rw [eσa, vw_out (by first | omega | (simp only [vb] at *; omega))]; first | exact hvτ | assumption
        refine g_iconst h dX10_see_23 (by decide) ?_
        refine g_istore_n (L' := [(0, .ref (w.1 25)), (1, .ref (w.1 (mc m 0))), (2, .int (nI i)), (3, .int (nI 0))]) h dX10_see_24 rfl (by decide) rfl ?_
        have lp25 : ∀ (k9 : Nat) (j : Nat) (τ2 : Mem), (j ≤ 8) → (τ2 (15180 + i) = mkS (prB μ i) j) → (∀ q, q < i → τ2 (15180 + q) = prS μ q) → (vw (vb m) τ2 = μ) → (τ2 15030 = (μ 1)) → (∀ a, (a ≠ 15030 ∧ (a < 15180 ∨ 15188 ≤ a) ∧ (a < 15330 ∨ 15394 ≤ a)) → τ2 a = σ a) → 8 - j < k9 → G X w 5 25 [(0, .ref (w.1 25)), (1, .ref (w.1 (mc m 0))), (2, .int (nI i)), (3, .int (nI j))] [] (τ2) := by
          intro k9
          induction k9 with
          | zero => intro j τ2 hj hpi hq2 hvτ2 ht15030_τ2 hcFR_τ2 hm9; exact absurd hm9 (Nat.not_lt_zero _)
          | succ k9 ih25 =>
            intro j τ2 hj hpi hq2 hvτ2 ht15030_τ2 hcFR_τ2 hm25
            refine g_iload_n h dX10_see_25 3 rfl ?_
            refine g_bipush h dX10_see_26 (by decide) ?_
            refine g_icmpN_ge h dX10_see_28 (by omega) (by omega) (fun c28 => ?_) (fun c28 => ?_)
            ·
              refine g_iincN (b := 1) (L' := [(0, .ref (w.1 25)), (1, .ref (w.1 (mc m 0))), (2, .int (nI (i + 1))), (3, .int (nI j))]) h dX10_see_118 2 rfl rfl (by decide) (by decide) rfl ?_
              refine g_goto h dX10_see_121 ?_
              exact g_sub [0, 1, 2] rfl (ih10 (i + 1) (τ2) (by omega) (by intro q hq; exact if e9 : q = i then (by rw [e9, hpi, show j = 8 from by omega]; rfl) else (hq2 q (by omega))) (by first | exact hvτ2 | assumption | fail | fail) (by first | exact ht15030_τ2 | assumption | fail | fail) (by first | exact hcFR_τ2 | assumption | fail | fail) (by omega))
            ·
              refine g_aload_n h dX10_see_31 1 rfl ?_
              refine g_getr h dX10_see_32 gX10_25 (sM_0 (m := m) (by omega)) rfl ?_
              refine g_iload_n h dX10_see_35 2 rfl ?_
              refine g_iald h dX10_see_36 (sM_2 (m := m) (by omega)) (by omega) ?_
              refine g_top (y := μ (24 + i)) (vw_pic (b := (vb m)) (k := 24 + i) (by first | exact hvτ2 | assumption) (by omega)) ?_
              refine g_iload_n h dX10_see_37 3 rfl ?_
              refine g_cspi (rest := []) h (c_has hW (μ (24 + i)) j (by omega)) lX5_has mX10_28 (Nat.lt_of_lt_of_le (by decide) (Nat.le_refl _)) (by decide) rfl rfl rfl dX10_see_38 ?_
              refine g_ifB_eq h dX10_see_41 (fun c41 => ?_) (fun c41 => ?_)
              ·
                refine g_iconst h dX10_see_61 (by decide) ?_
                refine g_istore (L' := [(0, .ref (w.1 25)), (1, .ref (w.1 (mc m 0))), (2, .int (nI i)), (3, .int (nI j)), (4, .int (nI 0))]) h dX10_see_62 rfl (by decide) rfl ?_
                refine g_aload_n h dX10_see_64 0 rfl ?_
                refine g_getr h dX10_see_65 gX10_9 sc_25 rfl ?_
                refine g_iload_n h dX10_see_68 2 rfl ?_
                refine g_aload_n h dX10_see_69 0 rfl ?_
                refine g_getr h dX10_see_70 gX10_9 sc_25 rfl ?_
                refine g_iload_n h dX10_see_73 2 rfl ?_
                refine g_iald h dX10_see_74 sc_26 (by omega) ?_
                refine g_iload_n h dX10_see_75 3 rfl ?_
                refine g_iload h dX10_see_76 4 rfl ?_
                refine g_ifN_eq h dX10_see_78 (by decide) (fun c78 => ?_) (fun c78 => absurd c78 (by decide))
                refine g_iconst h dX10_see_107 (by decide) ?_
                refine g_cspi (rest := [.int (nI i), .ref (w.1 26)]) h (c_with hW ((τ2) (15180 + i)) j false ) lX5_with mX10_32 (Nat.lt_of_lt_of_le (by decide) (Nat.le_refl _)) (by decide) rfl rfl rfl dX10_see_108 ?_
                refine g_iast h dX10_see_111 sc_26 (by omega) ?_
                refine g_nm (fun σb eσb => ?_)
                have eσb : σb = upd (τ2) (15180 + i) (wth ((τ2) (15180 + i)) j false) := eσb
                have ht15030_σb : σb 15030 = (μ 1) := by rw [eσb, upd_ne (by first | omega | (simp only [vb] at *; omega))]; first | exact ht15030_τ2 | assumption
                have hcFR_σb : ∀ a, (a ≠ 15030 ∧ (a < 15180 ∨ 15188 ≤ a) ∧ (a < 15330 ∨ 15394 ≤ a)) → σb a = σ a := by intro a ha; exact Eq.trans (b := (τ2) a) (by rw [eσb, upd_ne (by first | omega | (simp only [vb] at *; omega))]) (hcFR_τ2 a ha)
                have hvσb : vw (vb m) σb = μ := by rw [eσb, vw_out (by first | omega | (simp only [vb] at *; omega))]; first | exact hvτ2 | assumption
                refine g_iincN (b := 1) (L' := [(0, .ref (w.1 25)), (1, .ref (w.1 (mc m 0))), (2, .int (nI i)), (3, .int (nI (j + 1))), (4, .int (nI 0))]) h dX10_see_112 3 rfl rfl (by decide) (by decide) rfl ?_
                refine g_goto h dX10_see_115 ?_
                exact g_sub [0, 1, 2, 3] rfl (ih25 (j + 1) σb (by omega) (by rw [eσb, upd_eq, hpi]; exact mkS_w (by omega) (by simp [prB, c13, c28, c41])) (by intro q hq; rw [eσb, upd_ne (by omega)]; exact hq2 q hq) (by first | exact hvσb | assumption | fail | fail) (by first | exact ht15030_σb | assumption | fail | fail) (by first | exact hcFR_σb | assumption | fail | fail) (by omega))
              ·
                refine g_aload_n h dX10_see_44 1 rfl ?_
                refine g_getr h dX10_see_45 gX10_25 (sM_0 (m := m) (by omega)) rfl ?_
                refine g_iload_n h dX10_see_48 3 rfl ?_
                refine g_iald h dX10_see_49 (sM_2 (m := m) (by omega)) (by omega) ?_
                refine g_top (y := μ (24 + j)) (vw_pic (b := (vb m)) (k := 24 + j) (by first | exact hvτ2 | assumption) (by omega)) ?_
                refine g_iload_n h dX10_see_50 2 rfl ?_
                refine g_cspi (rest := []) h (c_has hW (μ (24 + j)) i (by omega)) lX5_has mX10_28 (Nat.lt_of_lt_of_le (by decide) (Nat.le_refl _)) (by decide) rfl rfl rfl dX10_see_51 ?_
                refine g_ifB_eq h dX10_see_54 (fun c54 => ?_) (fun c54 => ?_)
                ·
                  refine g_iconst h dX10_see_61 (by decide) ?_
                  refine g_istore (L' := [(0, .ref (w.1 25)), (1, .ref (w.1 (mc m 0))), (2, .int (nI i)), (3, .int (nI j)), (4, .int (nI 0))]) h dX10_see_62 rfl (by decide) rfl ?_
                  refine g_aload_n h dX10_see_64 0 rfl ?_
                  refine g_getr h dX10_see_65 gX10_9 sc_25 rfl ?_
                  refine g_iload_n h dX10_see_68 2 rfl ?_
                  refine g_aload_n h dX10_see_69 0 rfl ?_
                  refine g_getr h dX10_see_70 gX10_9 sc_25 rfl ?_
                  refine g_iload_n h dX10_see_73 2 rfl ?_
                  refine g_iald h dX10_see_74 sc_26 (by omega) ?_
                  refine g_iload_n h dX10_see_75 3 rfl ?_
                  refine g_iload h dX10_see_76 4 rfl ?_
                  refine g_ifN_eq h dX10_see_78 (by decide) (fun c78 => ?_) (fun c78 => absurd c78 (by decide))
                  refine g_iconst h dX10_see_107 (by decide) ?_
                  refine g_cspi (rest := [.int (nI i), .ref (w.1 26)]) h (c_with hW ((τ2) (15180 + i)) j false ) lX5_with mX10_32 (Nat.lt_of_lt_of_le (by decide) (Nat.le_refl _)) (by decide) rfl rfl rfl dX10_see_108 ?_
                  refine g_iast h dX10_see_111 sc_26 (by omega) ?_
                  refine g_nm (fun σb eσb => ?_)
                  have eσb : σb = upd (τ2) (15180 + i) (wth ((τ2) (15180 + i)) j false) := eσb
                  have ht15030_σb : σb 15030 = (μ 1) := by rw [eσb, upd_ne (by first | omega | (simp only [vb] at *; omega))]; first | exact ht15030_τ2 | assumption
                  have hcFR_σb : ∀ a, (a ≠ 15030 ∧ (a < 15180 ∨ 15188 ≤ a) ∧ (a < 15330 ∨ 15394 ≤ a)) → σb a = σ a := by intro a ha; exact Eq.trans (b := (τ2) a) (by rw [eσb, upd_ne (by first | omega | (simp only [vb] at *; omega))]) (hcFR_τ2 a ha)
                  have hvσb : vw (vb m) σb = μ := by rw [eσb, vw_out (by first | omega | (simp only [vb] at *; omega))]; first | exact hvτ2 | assumption
                  refine g_iincN (b := 1) (L' := [(0, .ref (w.1 25)), (1, .ref (w.1 (mc m 0))), (2, .int (nI i)), (3, .int (nI (j + 1))), (4, .int (nI 0))]) h dX10_see_112 3 rfl rfl (by decide) (by decide) rfl ?_
                  refine g_goto h dX10_see_115 ?_
                  exact g_sub [0, 1, 2, 3] rfl (ih25 (j + 1) σb (by omega) (by rw [eσb, upd_eq, hpi]; exact mkS_w (by omega) (by simp [prB, c13, c28, c41, c54])) (by intro q hq; rw [eσb, upd_ne (by omega)]; exact hq2 q hq) (by first | exact hvσb | assumption | fail | fail) (by first | exact ht15030_σb | assumption | fail | fail) (by first | exact hcFR_σb | assumption | fail | fail) (by omega))
                ·
                  refine g_iconst h dX10_see_57 (by decide) ?_
                  refine g_goto h dX10_see_58 ?_
                  refine g_istore (L' := [(0, .ref (w.1 25)), (1, .ref (w.1 (mc m 0))), (2, .int (nI i)), (3, .int (nI j)), (4, .int (nI 1))]) h dX10_see_62 rfl (by decide) rfl ?_
                  refine g_aload_n h dX10_see_64 0 rfl ?_
                  refine g_getr h dX10_see_65 gX10_9 sc_25 rfl ?_
                  refine g_iload_n h dX10_see_68 2 rfl ?_
                  refine g_aload_n h dX10_see_69 0 rfl ?_
                  refine g_getr h dX10_see_70 gX10_9 sc_25 rfl ?_
                  refine g_iload_n h dX10_see_73 2 rfl ?_
                  refine g_iald h dX10_see_74 sc_26 (by omega) ?_
                  refine g_iload_n h dX10_see_75 3 rfl ?_
                  refine g_iload h dX10_see_76 4 rfl ?_
                  refine g_ifN_eq h dX10_see_78 (by decide) (fun c78 => absurd c78 (by decide)) (fun c78 => ?_)
                  refine g_aload_n h dX10_see_81 0 rfl ?_
                  refine g_geti h dX10_see_82 gX10_24 sc_25 rfl ?_
                  refine g_top (y := (μ 1)) (by first | exact ht15030_τ2 | assumption) ?_
                  refine g_iload_n h dX10_see_85 2 rfl ?_
                  refine g_cspi (rest := [.int (nI j), .int ((τ2) (15180 + i)), .int (nI i), .ref (w.1 26)]) h (c_has hW (μ 1) i (by omega)) lX5_has mX10_28 (Nat.lt_of_lt_of_le (by decide) (Nat.le_refl _)) (by decide) rfl rfl rfl dX10_see_86 ?_
                  refine g_ifB_eq h dX10_see_89 (fun c89 => ?_) (fun c89 => ?_)
                  ·
                    refine g_iconst h dX10_see_107 (by decide) ?_
                    refine g_cspi (rest := [.int (nI i), .ref (w.1 26)]) h (c_with hW ((τ2) (15180 + i)) j false ) lX5_with mX10_32 (Nat.lt_of_lt_of_le (by decide) (Nat.le_refl _)) (by decide) rfl rfl rfl dX10_see_108 ?_
                    refine g_iast h dX10_see_111 sc_26 (by omega) ?_
                    refine g_nm (fun σb eσb => ?_)
                    have eσb : σb = upd (τ2) (15180 + i) (wth ((τ2) (15180 + i)) j false) := eσb
                    have ht15030_σb : σb 15030 = (μ 1) := by rw [eσb, upd_ne (by first | omega | (simp only [vb] at *; omega))]; first | exact ht15030_τ2 | assumption
                    have hcFR_σb : ∀ a, (a ≠ 15030 ∧ (a < 15180 ∨ 15188 ≤ a) ∧ (a < 15330 ∨ 15394 ≤ a)) → σb a = σ a := by intro a ha; exact Eq.trans (b := (τ2) a) (by rw [eσb, upd_ne (by first | omega | (simp only [vb] at *; omega))]) (hcFR_τ2 a ha)
                    have hvσb : vw (vb m) σb = μ := by rw [eσb, vw_out (by first | omega | (simp only [vb] at *; omega))]; first | exact hvτ2 | assumption
                    refine g_iincN (b := 1) (L' := [(0, .ref (w.1 25)), (1, .ref (w.1 (mc m 0))), (2, .int (nI i)), (3, .int (nI (j + 1))), (4, .int (nI 1))]) h dX10_see_112 3 rfl rfl (by decide) (by decide) rfl ?_
                    refine g_goto h dX10_see_115 ?_
                    exact g_sub [0, 1, 2, 3] rfl (ih25 (j + 1) σb (by omega) (by rw [eσb, upd_eq, hpi]; exact mkS_w (by omega) (by simp [prB, c13, c28, c41, c54, c89])) (by intro q hq; rw [eσb, upd_ne (by omega)]; exact hq2 q hq) (by first | exact hvσb | assumption | fail | fail) (by first | exact ht15030_σb | assumption | fail | fail) (by first | exact hcFR_σb | assumption | fail | fail) (by omega))
                  ·
                    refine g_aload_n h dX10_see_92 0 rfl ?_
                    refine g_geti h dX10_see_93 gX10_24 sc_25 rfl ?_
                    refine g_top (y := (μ 1)) (by first | exact ht15030_τ2 | assumption) ?_
                    refine g_iload_n h dX10_see_96 3 rfl ?_
                    refine g_cspi (rest := [.int (nI j), .int ((τ2) (15180 + i)), .int (nI i), .ref (w.1 26)]) h (c_has hW (μ 1) j (by omega)) lX5_has mX10_28 (Nat.lt_of_lt_of_le (by decide) (Nat.le_refl _)) (by decide) rfl rfl rfl dX10_see_97 ?_
                    refine g_ifB_eq h dX10_see_100 (fun c100 => ?_) (fun c100 => ?_)
                    ·
                      refine g_iconst h dX10_see_107 (by decide) ?_
                      refine g_cspi (rest := [.int (nI i), .ref (w.1 26)]) h (c_with hW ((τ2) (15180 + i)) j false ) lX5_with mX10_32 (Nat.lt_of_lt_of_le (by decide) (Nat.le_refl _)) (by decide) rfl rfl rfl dX10_see_108 ?_
                      refine g_iast h dX10_see_111 sc_26 (by omega) ?_
                      refine g_nm (fun σb eσb => ?_)
                      have eσb : σb = upd (τ2) (15180 + i) (wth ((τ2) (15180 + i)) j false) := eσb
                      have ht15030_σb : σb 15030 = (μ 1) := by rw [eσb, upd_ne (by first | omega | (simp only [vb] at *; omega))]; first | exact ht15030_τ2 | assumption
                      have hcFR_σb : ∀ a, (a ≠ 15030 ∧ (a < 15180 ∨ 15188 ≤ a) ∧ (a < 15330 ∨ 15394 ≤ a)) → σb a = σ a := by intro a ha; exact Eq.trans (b := (τ2) a) (by rw [eσb, upd_ne (by first | omega | (simp only [vb] at *; omega))]) (hcFR_τ2 a ha)
                      have hvσb : vw (vb m) σb = μ := by rw [eσb, vw_out (by first | omega | (simp only [vb] at *; omega))]; first | exact hvτ2 | assumption
                      refine g_iincN (b := 1) (L' := [(0, .ref (w.1 25)), (1, .ref (w.1 (mc m 0))), (2, .int (nI i)), (3, .int (nI (j + 1))), (4, .int (nI 1))]) h dX10_see_112 3 rfl rfl (by decide) (by decide) rfl ?_
                      refine g_goto h dX10_see_115 ?_
                      exact g_sub [0, 1, 2, 3] rfl (ih25 (j + 1) σb (by omega) (by rw [eσb, upd_eq, hpi]; exact mkS_w (by omega) (by simp [prB, c13, c28, c41, c54, c89, c100])) (by intro q hq; rw [eσb, upd_ne (by omega)]; exact hq2 q hq) (by first | exact hvσb | assumption | fail | fail) (by first | exact ht15030_σb | assumption | fail | fail) (by first | exact hcFR_σb | assumption | fail | fail) (by omega))
                    ·
                      refine g_iconst h dX10_see_103 (by decide) ?_
                      refine g_goto h dX10_see_104 ?_
                      refine g_cspi (rest := [.int (nI i), .ref (w.1 26)]) h (c_with hW ((τ2) (15180 + i)) j true ) lX5_with mX10_32 (Nat.lt_of_lt_of_le (by decide) (Nat.le_refl _)) (by decide) rfl rfl rfl dX10_see_108 ?_
                      refine g_iast h dX10_see_111 sc_26 (by omega) ?_
                      refine g_nm (fun σb eσb => ?_)
                      have eσb : σb = upd (τ2) (15180 + i) (wth ((τ2) (15180 + i)) j true) := eσb
                      have ht15030_σb : σb 15030 = (μ 1) := by rw [eσb, upd_ne (by first | omega | (simp only [vb] at *; omega))]; first | exact ht15030_τ2 | assumption
                      have hcFR_σb : ∀ a, (a ≠ 15030 ∧ (a < 15180 ∨ 15188 ≤ a) ∧ (a < 15330 ∨ 15394 ≤ a)) → σb a = σ a := by intro a ha; exact Eq.trans (b := (τ2) a) (by rw [eσb, upd_ne (by first | omega | (simp only [vb] at *; omega))]) (hcFR_τ2 a ha)
                      have hvσb : vw (vb m) σb = μ := by rw [eσb, vw_out (by first | omega | (simp only [vb] at *; omega))]; first | exact hvτ2 | assumption
                      refine g_iincN (b := 1) (L' := [(0, .ref (w.1 25)), (1, .ref (w.1 (mc m 0))), (2, .int (nI i)), (3, .int (nI (j + 1))), (4, .int (nI 1))]) h dX10_see_112 3 rfl rfl (by decide) (by decide) rfl ?_
                      refine g_goto h dX10_see_115 ?_
                      exact g_sub [0, 1, 2, 3] rfl (ih25 (j + 1) σb (by omega) (by rw [eσb, upd_eq, hpi]; exact mkS_w (by omega) (by simp [prB, c13, c28, c41, c54, c89, c100])) (by intro q hq; rw [eσb, upd_ne (by omega)]; exact hq2 q hq) (by first | exact hvσb | assumption | fail | fail) (by first | exact ht15030_σb | assumption | fail | fail) (by first | exact hcFR_σb | assumption | fail | fail) (by omega))
        exact lp25 (_) 0 σa (by omega) (by rw [eσa]; exact upd_eq) (by intro q hq; rw [eσa, upd_ne (by omega)]; exact hp q hq) (by first | exact hvσa | assumption | fail | fail) (by first | exact ht15030_σa | assumption | fail | fail) (by first | exact hcFR_σa | assumption | fail | fail) (Nat.lt_succ_self _)
  exact lp10 (_) 0 σo (by omega) (by intro q hq; omega) (by first | exact hvσo | assumption | fail | fail) (by first | exact ht15030_σo | assumption | fail | fail) (by first | exact hcFR_σo | assumption | fail | fail) (Nat.lt_succ_self _)
