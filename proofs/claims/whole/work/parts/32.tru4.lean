/-! what is told, what is wrong; a backbone, as the reference asks -/
theorem rch_on {μ : Nat → Int32} {st : Int32} {f q : Nat} (hf : f < 32) : ∀ n, tb (rch μ st f n) q = true → q = f ∨ tb st q = true
  | 0, h => by
    have h : tb (bt1 f) q = true := h
    rw [tb_bt1 hf] at h
    exact Or.inl (of_decide_eq_true h)
  | n + 1, h => by
    have h : tb (rch μ st f n ||| (prO μ (rch μ st f n) &&& st)) q = true := h
    rw [tb_or, tb_and, Bool.or_eq_true, Bool.and_eq_true] at h
    rcases h with h | h
    · exact rch_on hf n h
    · exact Or.inr h.2
theorem fB_0 {μ : Nat → Int32} {st : Int32} {f t : Nat} (h : ∀ n, tb (rch μ st f n) t = false) : fB μ st f t = 0 := by
  unfold fB
  rw [fs_none (fun x _ => h x)]
  rfl
theorem far_off {μ : Nat → Int32} {i j : Nat} (hi : i < 8) (h : tb (μ 1) j = false) (hne : j ≠ i) : far μ i j = 0 := fB_0 fun n => by
  cases q : tb (rch μ (μ 1) i n) j with
  | false => rfl
  | true =>
    rcases rch_on (by omega) n q with e | e
    · exact absurd e hne
    · rw [h] at e
      cases e
theorem fB_self {μ : Nat → Int32} {st : Int32} {i : Nat} (hi : i < 8) : fB μ st i i = 0 := by
  unfold fB
  rw [fs_here (n := 0) (fun x hx => absurd hx (Nat.not_lt_zero _)) (by show tb (bt1 i) i = true; rw [tb_bt1 (by omega)]; simp) 8 (by omega)]
  rfl
theorem rts_self {μ : Nat → Int32} {i : Nat} (hI : MI μ) (hi : i < 8) : rs (rts μ i 6) i = 0 := by
  by_cases c : rs (rts μ i 6) i = 0
  · exact c
  · obtain ⟨p, h1, h2⟩ := rs_some (R := rts μ i 6) (y := i) rfl (by omega)
    exact absurd rfl (rts_lv hI hi 6 i p h1).2.2.1
def wrB (μ : Nat → Int32) (i w j : Nat) : Bool :=
  if w = 0 then decide (0 < far μ i j) && decide (rs (rts μ i 6) j = 0)
  else if w = 1 then decide (0 < far μ i j) && decide (far μ i j < rs (rts μ i 6) j)
  else decide (0 < rs (rts μ i 6) j) && (decide (far μ i j = 0) || decide (rs (rts μ i 6) j < far μ i j))
def wrS (μ : Nat → Int32) (i w : Nat) : Int32 := mkS (wrB μ i w) (nN μ)
theorem wr_self {μ : Nat → Int32} {i w : Nat} (hI : MI μ) (hi : i < 8) : wrB μ i w i = false := by
  unfold wrB
  rw [rts_self hI hi, show far μ i i = 0 from fB_self hi]
  simp
def tl1 (μ : Nat → Int32) (i : Nat) : Bool := tb (μ 1) i && anyB (fun j => !decide (rs (rts μ i 6) j = far μ i j)) (nN μ)
def tld (μ : Nat → Int32) : Bool := !anyB (tl1 μ) (nN μ)
theorem mkS_0 {f : Nat → Bool} {n : Nat} (hn : n ≤ 32) : mkS f n = 0 ↔ ∀ x, x < n → f x = false := by
  constructor
  · intro h x hx
    have := tb_mkS f n hn x
    rw [h, tb_0] at this
    simp [hx] at this
    exact this
  · intro h
    apply s_ext
    intro q _
    rw [tb_mkS f n hn, tb_0]
    by_cases c : q < n
    · rw [h q c]
      simp
    · simp [c]
theorem or3_0 {x y z : Int32} : x ||| y ||| z = 0 ↔ x = 0 ∧ y = 0 ∧ z = 0 := by
  constructor
  · intro h
    have h2 : ∀ q, (tb x q || tb y q || tb z q) = false := fun q => by rw [← tb_or, ← tb_or, h, tb_0]
    refine ⟨s_ext fun q _ => ?_, s_ext fun q _ => ?_, s_ext fun q _ => ?_⟩
    all_goals
      have := h2 q
      rw [tb_0]
      simp only [Bool.or_eq_false_iff] at this
      first | exact this.1.1 | exact this.1.2 | exact this.2
  · rintro ⟨rfl, rfl, rfl⟩
    decide
theorem wr_told {μ : Nat → Int32} {i : Nat} (h8 : nN μ ≤ 8) : wrS μ i 0 ||| wrS μ i 1 ||| wrS μ i 2 = 0 ↔ anyB (fun j => !decide (rs (rts μ i 6) j = far μ i j)) (nN μ) = false := by
  rw [or3_0]
  unfold wrS
  rw [mkS_0 (by omega), mkS_0 (by omega), mkS_0 (by omega)]
  constructor
  · rintro ⟨h0, h1, h2⟩
    apply anyB_f
    intro x hx
    have q0 := h0 x hx
    have q1 := h1 x hx
    have q2 := h2 x hx
    simp [wrB] at q0 q1 q2
    simp
    omega
  · intro h
    have h9 : ∀ x, x < nN μ → rs (rts μ i 6) x = far μ i x := fun x hx => by
      by_cases c : rs (rts μ i 6) x = far μ i x
      · exact c
      · have := (anyB_iff (p := fun j => !decide (rs (rts μ i 6) j = far μ i j))).mpr ⟨x, hx, by simp [c]⟩
        rw [h] at this
        cases this
    refine ⟨fun x hx => ?_, fun x hx => ?_, fun x hx => ?_⟩
    all_goals
      have := h9 x hx
      simp [wrB]
      omega
/-! backbones, asked node by node -/
theorem prB_sym {μ : Nat → Int32} {a b : Nat} : prB μ a b = prB μ b a := by
  unfold prB
  cases tb (μ 1) a <;> cases tb (μ 1) b <;> cases tb (μ (24 + a)) b <;> cases tb (μ (24 + b)) a <;> rfl
def cvB (μ : Nat → Int32) (s : Int32) (a : Nat) : Bool := tb s a || anyB (fun b => tb s b && prB μ a b) (nN μ)
theorem cv_prO {μ : Nat → Int32} {s : Int32} {a : Nat} (hI : MI μ) : cvB μ s a = (tb s a || tb (prO μ s) a) := by
  unfold cvB
  congr 1
  cases q : tb (prO μ s) a with
  | true =>
    obtain ⟨b, h1, h2⟩ := (tb_prO hI).mp q
    exact anyB_iff.mpr ⟨b, (prB_lt hI h2).1, by rw [h1, prB_sym, h2]; rfl⟩
  | false =>
    apply anyB_f
    intro b hb
    cases c : (tb s b && prB μ a b) with
    | false => rfl
    | true =>
      rw [Bool.and_eq_true] at c
      have := (tb_prO hI).mpr ⟨b, c.1, by rw [prB_sym]; exact c.2⟩
      rw [q] at this
      cases this
theorem bk_off {μ : Nat → Int32} {s : Int32} (h : ¬ s &&& nots (μ 1) = 0) : bkB μ s = false := by
  unfold bkB
  simp [h]
theorem bk_unc {μ : Nat → Int32} {s : Int32} {a : Nat} (hI : MI μ) (h1 : tb (μ 1) a = true) (h2 : cvB μ s a = false) : bkB μ s = false := by
  have ha : a < 32 := tb_lt32 h1
  rw [cv_prO hI, Bool.or_eq_false_iff] at h2
  have : ¬ μ 1 &&& nots s &&& nots (prO μ s) = 0 := fun e => by
    have q : tb (μ 1 &&& nots s &&& nots (prO μ s)) a = true := by
      rw [tb_and, tb_and, tb_nots ha, tb_nots ha, h1, h2.1, h2.2]
      rfl
    rw [e, tb_0] at q
    cases q
  unfold bkB
  simp [this]
theorem fB_pos {μ : Nat → Int32} {st : Int32} {f t : Nat} (hf : f < 32) (hne : t ≠ f) : fB μ st f t = 0 ↔ tb (rch μ st f 7) t = false := by
  unfold fB
  constructor
  · intro h
    cases e : fs (fun n => tb (rch μ st f n) t) 8 with
    | none => exact fs_no e 7 (by omega)
    | some v =>
      rw [e] at h
      have hv := fs_lt e
      have h : v = 0 := h
      subst h
      have h2 : tb (bt1 f) t = true := hv.2
      rw [tb_bt1 hf] at h2
      exact absurd (of_decide_eq_true h2) hne
  · intro h
    rw [fs_none]
    · rfl
    · intro x hx
      cases q : tb (rch μ st f x) t with
      | false => rfl
      | true =>
        have := rch_mono (7 - x) q
        rw [show x + (7 - x) = 7 from by omega, h] at this
        cases this
theorem bk_far {μ : Nat → Int32} {s : Int32} {w a : Nat} (hw : fs (fun q => tb s q) 8 = some w) (ha : tb s a = true) (hne : a ≠ w) (h : fB μ s w a = 0) : bkB μ s = false := by
  have hw8 := (fs_lt hw).1
  have h2 := (fB_pos (by omega) hne).mp h
  have : ¬ rch μ s w 7 = s := fun e => by
    rw [e, ha] at h2
    cases h2
  unfold bkB jnd
  rw [hw]
  simp [this]
theorem bk_yes {μ : Nat → Int32} {s : Int32} (hI : MI μ) (h0 : s &&& nots (μ 1) = 0) (hc : ∀ a, a < nN μ → tb (μ 1) a = true → cvB μ s a = true) (hj : ∀ w, fs (fun q => tb s q) 8 = some w → ∀ a, a < nN μ → tb s a = true → a ≠ w → fB μ s w a ≠ 0) : bkB μ s = true := by
  have h8 := mi_8 hI
  have hon : ∀ a, tb s a = true → tb (μ 1) a = true ∧ a < nN μ := fun a ha => by
    have ha32 : a < 32 := tb_lt32 ha
    have q : tb (s &&& nots (μ 1)) a = false := by rw [h0, tb_0]
    rw [tb_and, tb_nots ha32, ha] at q
    have q1 : tb (μ 1) a = true := by simpa using q
    refine ⟨q1, ?_⟩
    by_cases c : a < nN μ
    · exact c
    · have := ms_on hI a (by omega)
      rw [q1] at this
      cases this
  have h1 : μ 1 &&& nots s &&& nots (prO μ s) = 0 := by
    apply s_ext
    intro a ha
    rw [tb_and, tb_and, tb_nots ha, tb_nots ha, tb_0]
    cases c : tb (μ 1) a with
    | false => rfl
    | true =>
      have hl : a < nN μ := by
        by_cases q : a < nN μ
        · exact q
        · have := ms_on hI a (by omega)
          rw [c] at this
          cases this
      have := hc a hl c
      rw [cv_prO hI] at this
      cases q1 : tb s a <;> cases q2 : tb (prO μ s) a <;> simp [q1, q2] at this ⊢
  have h2 : jnd μ s = true := by
    unfold jnd
    cases e : fs (fun q => tb s q) 8 with
    | none => rfl
    | some w =>
      have hw := fs_lt e
      dsimp only
      apply decide_eq_true
      apply tb_iff
      intro a
      constructor
      · intro h
        rcases rch_on (by omega) 7 h with q | q
        · rw [q]
          exact hw.2
        · exact q
      · intro h
        by_cases q : a = w
        · rw [q]
          have : tb (rch μ s w 0) w = true := by
            show tb (bt1 w) w = true
            rw [tb_bt1 (by omega)]
            simp
          exact rch_mono (n := 0) 7 this
        · cases c : tb (rch μ s w 7) a with
          | true => rfl
          | false => exact absurd ((fB_pos (by omega) q).mpr c) (hj w e a (hon a h).2 h q)
  unfold bkB
  rw [h2, decide_eq_true h0, decide_eq_true h1]
  rfl
theorem fs_N8 {μ : Nat → Int32} {s : Int32} (hI : MI μ) (h0 : s &&& nots (μ 1) = 0) : fs (fun q => tb s q) (nN μ) = fs (fun q => tb s q) 8 := by
  have h8 := mi_8 hI
  have hno : ∀ a, nN μ ≤ a → tb s a = false := fun a ha => by
    by_cases c : a < 32
    · have q : tb (s &&& nots (μ 1)) a = false := by rw [h0, tb_0]
      rw [tb_and, tb_nots c, ms_on hI a ha] at q
      simpa using q
    · exact tb_big (by omega)
  cases e : fs (fun q => tb s q) (nN μ) with
  | none =>
    symm
    apply fs_none
    intro x _
    by_cases c : x < nN μ
    · exact fs_no e x c
    · exact hno x (by omega)
  | some v =>
    have hv := fs_lt e
    symm
    exact fs_here (fun x hx => by exact fs_first e x hx) hv.2 8 (by omega)

set_option maxRecDepth 100000 in
set_option maxHeartbeats 4000000 in
theorem r_spineNow {l : Launch} {w : Wd} (hW : Wi w) {σ : Mem} (μ : Nat → Int32) (hv : vw 0 σ = μ) (hI : MI μ) : MC l w qX12_spineNow 2 [.ref (w.1 0)] σ (some (.int (spn μ))) (fun σ' => σ' = σ) := by
  refine MC.of hW (by decide +kernel) (Nat.le_of_ble_eq_true rfl) (fun X h hQ hnm => ?_)
  have h : Fx X w cX12_spineNow 3 RX12 2 := h
  have hQ : Qx X w (some .int) (some (.int (spn μ))) (fun σ' => σ' = σ) := hQ
  have hN8 := mi_8 hI
  show G X w 3 0 [(0, .ref (w.1 0))] [] σ
  refine g_iconst h dX12_spineNow_0 (by decide) ?_
  refine g_istore_n (L' := [(0, .ref (w.1 0)), (1, .int (nI 0))]) h dX12_spineNow_1 rfl (by decide) rfl ?_
  refine g_iconst h dX12_spineNow_2 (by decide) ?_
  refine g_istore_n (L' := [(0, .ref (w.1 0)), (1, .int (nI 0)), (2, .int (nI 0))]) h dX12_spineNow_3 rfl (by decide) rfl ?_
  have lp4 : ∀ (k9 : Nat) (s : Int32) (i : Nat), (s = orS (fun i => if tb (μ 1) i = true then μ (48 + i) else nI 0) i) → (i ≤ nN μ) → nN μ - i < k9 → G X w 3 4 [(0, .ref (w.1 0)), (1, .int s), (2, .int (nI i))] [] σ := by
    intro k9
    induction k9 with
    | zero => intro s i hs hi hm9; exact absurd hm9 (Nat.not_lt_zero _)
    | succ k9 ih4 =>
      intro s i hs hi hm4
      refine g_iload_n h dX12_spineNow_4 2 rfl ?_
      refine g_aload_n h dX12_spineNow_5 0 rfl ?_
      refine g_iconst h dX12_spineNow_6 (by decide) ?_
      refine g_cvpi (rest := [.int (nI i)]) h (r_of hW 0 μ (by assumption) (by omega)) lX12_of mX12_61 (Nat.lt_of_lt_of_le (by decide) (Nat.le_refl _)) (by decide) sc_0 rfl rfl rfl rfl dX12_spineNow_7 ?_
      refine g_top (y := nI (nN μ)) (mi_0 (by assumption)) ?_
      refine g_icmpN_ge h dX12_spineNow_10 (by omega) (by omega) (fun c10 => ?_) (fun c10 => ?_)
      ·
        refine g_iload_n h dX12_spineNow_42 1 rfl ?_
        refine g_aload_n h dX12_spineNow_43 0 rfl ?_
        refine g_iconst h dX12_spineNow_44 (by decide) ?_
        refine g_cvpi (rest := [.int s]) h (r_of hW 1 μ (by assumption) (by omega)) lX12_of mX12_61 (Nat.lt_of_lt_of_le (by decide) (Nat.le_refl _)) (by decide) sc_0 rfl rfl rfl rfl dX12_spineNow_45 ?_
        refine g_iand h dX12_spineNow_48  ?_
        exact g_iret h hQ dX12_spineNow_49 (congrArg (fun z => some (Value.int z)) (show (spn μ) = (s &&& (μ 1)) by unfold spn; rw [← show i = nN μ from by omega, hs])) rfl
      ·
        refine g_iload_n h dX12_spineNow_13 1 rfl ?_
        refine g_aload_n h dX12_spineNow_14 0 rfl ?_
        refine g_iload_n h dX12_spineNow_15 2 rfl ?_
        refine g_cvpi (rest := [.int s]) h (r_isOn hW i μ (by assumption) (by omega)) lX12_isOn mX12_114 (Nat.lt_of_lt_of_le (by decide) (Nat.le_refl _)) (by decide) sc_0 rfl rfl rfl rfl dX12_spineNow_16 ?_
        refine g_ifB_eq h dX12_spineNow_19 (fun c19 => ?_) (fun c19 => ?_)
        ·
          refine g_iconst h dX12_spineNow_33 (by decide) ?_
          refine g_ior h dX12_spineNow_34  ?_
          refine g_istore_n (L' := [(0, .ref (w.1 0)), (1, .int (s ||| (nI 0))), (2, .int (nI i))]) h dX12_spineNow_35 rfl (by decide) rfl ?_
          refine g_iincN (b := 1) (L' := [(0, .ref (w.1 0)), (1, .int (s ||| (nI 0))), (2, .int (nI (i + 1)))]) h dX12_spineNow_36 2 rfl rfl (by decide) (by decide) rfl ?_
          refine g_goto h dX12_spineNow_39 ?_
          exact ih4 (s ||| (nI 0)) (i + 1) (by first | rfl | (simp [hs, mkS, orS, fN, or_n0, ful, lsO, bst, c10, c19]; done) | (simp_all [mkS, orS, fN, or_n0, ful, lsO, bst]; done) | fail | fail) (by omega) (by omega)
        ·
          refine g_aload_n h dX12_spineNow_22 0 rfl ?_
          refine g_bipush h dX12_spineNow_23 (by decide) ?_
          refine g_iload_n h dX12_spineNow_25 2 rfl ?_
          refine g_iaddN h dX12_spineNow_26  ?_
          refine g_cvpi (rest := [.int s]) h (r_of hW (48 + i) μ (by assumption) (by omega)) lX12_of mX12_61 (Nat.lt_of_lt_of_le (by decide) (Nat.le_refl _)) (by decide) sc_0 rfl rfl rfl rfl dX12_spineNow_27 ?_
          refine g_goto h dX12_spineNow_30 ?_
          refine g_ior h dX12_spineNow_34  ?_
          refine g_istore_n (L' := [(0, .ref (w.1 0)), (1, .int (s ||| (μ (48 + i)))), (2, .int (nI i))]) h dX12_spineNow_35 rfl (by decide) rfl ?_
          refine g_iincN (b := 1) (L' := [(0, .ref (w.1 0)), (1, .int (s ||| (μ (48 + i)))), (2, .int (nI (i + 1)))]) h dX12_spineNow_36 2 rfl rfl (by decide) (by decide) rfl ?_
          refine g_goto h dX12_spineNow_39 ?_
          exact ih4 (s ||| (μ (48 + i))) (i + 1) (by first | rfl | (simp [hs, mkS, orS, fN, or_n0, ful, lsO, bst, c10, c19]; done) | (simp_all [mkS, orS, fN, or_n0, ful, lsO, bst]; done) | fail | fail) (by omega) (by omega)
  exact lp4 (_) (nI 0) 0 (by first | rfl | (simp [mkS, orS, fN, or_n0, ful, lsO, bst]; done) | fail | fail) (by omega) (Nat.lt_succ_self _)

set_option maxRecDepth 100000 in
set_option maxHeartbeats 4000000 in
theorem r_tableOf {l : Launch} {w : Wd} (hW : Wi w) {σ : Mem} (i : Nat) (μ : Nat → Int32) (hv : vw 0 σ = μ) (hI : MI μ) (hi : i < 8) : MC l w qX12_tableOf 5 [.ref (w.1 0), .int (nI i)] σ (some (.int (mkS (fun j => decide (0 < rs (rts μ i 6) j)) (nN μ)))) (fun σ' => (∀ a, (a < 5150 ∨ 5168 ≤ a) → σ' a = σ a)) := by
  refine MC.of hW (by decide +kernel) (Nat.le_of_ble_eq_true rfl) (fun X h hQ hnm => ?_)
  have h : Fx X w cX12_tableOf 4 RX12 5 := h
  have hQ : Qx X w (some .int) (some (.int (mkS (fun j => decide (0 < rs (rts μ i 6) j)) (nN μ)))) (fun σ' => (∀ a, (a < 5150 ∨ 5168 ≤ a) → σ' a = σ a)) := hQ
  have hN8 := mi_8 hI
  show G X w 4 0 [(0, .ref (w.1 0)), (1, .int (nI i))] [] σ
  refine g_iconst h dX12_tableOf_0 (by decide) ?_
  refine g_istore_n (L' := [(0, .ref (w.1 0)), (1, .int (nI i)), (2, .int (nI 0))]) h dX12_tableOf_1 rfl (by decide) rfl ?_
  refine g_aload_n h dX12_tableOf_2 0 rfl ?_
  refine g_iload_n h dX12_tableOf_3 1 rfl ?_
  refine g_cvv (rest := []) h (r_laysRoutes hW i μ (by first | exact hv | assumption | fail) (by assumption) (by omega)) lX12_laysRoutes mX12_306 (Nat.lt_of_lt_of_le (by decide) (Nat.le_refl _)) (by decide) sc_0 rfl rfl rfl rfl dX12_tableOf_4 (fun σ_1 eσ_1 => ?_)
  obtain ⟨eσ_1_a, eσ_1_b⟩ := eσ_1
  have eσ_1_a : RR σ_1 (rts μ i 6) := eσ_1_a
  have eσ_1_b : ∀ a, (a < 5150 ∨ 5168 ≤ a) → σ_1 a = σ a := eσ_1_b
  have hcRR_σ_1 : RR σ_1 (rts μ i 6) := eσ_1_a
  have hvσ_1 : vw 0 σ_1 = μ := by rw [vw_fr (σ := σ) (fun j _ _ => eσ_1_b _ (by first | omega | (simp only [vb] at *; omega)))]; first | exact hv | assumption
  refine g_iconst h dX12_tableOf_7 (by decide) ?_
  refine g_istore_n (L' := [(0, .ref (w.1 0)), (1, .int (nI i)), (2, .int (nI 0)), (3, .int (nI 0))]) h dX12_tableOf_8 rfl (by decide) rfl ?_
  have lp9 : ∀ (k9 : Nat) (s : Int32) (j : Nat), (s = mkS (fun j => decide (0 < rs (rts μ i 6) j)) j) → (j ≤ nN μ) → nN μ - j < k9 → G X w 4 9 [(0, .ref (w.1 0)), (1, .int (nI i)), (2, .int s), (3, .int (nI j))] [] σ_1 := by
    intro k9
    induction k9 with
    | zero => intro s j hs hj hm9; exact absurd hm9 (Nat.not_lt_zero _)
    | succ k9 ih9 =>
      intro s j hs hj hm9
      have hbj := rts_rb hI hi 6 (by omega) j
      refine g_iload_n h dX12_tableOf_9 3 rfl ?_
      refine g_aload_n h dX12_tableOf_10 0 rfl ?_
      refine g_iconst h dX12_tableOf_11 (by decide) ?_
      refine g_cvpi (rest := [.int (nI j)]) h (r_of hW 0 μ (by assumption) (by omega)) lX12_of mX12_61 (Nat.lt_of_lt_of_le (by decide) (Nat.le_refl _)) (by decide) sc_0 rfl rfl rfl rfl dX12_tableOf_12 ?_
      refine g_top (y := nI (nN μ)) (mi_0 (by assumption)) ?_
      refine g_icmpN_ge h dX12_tableOf_15 (by omega) (by omega) (fun c15 => ?_) (fun c15 => ?_)
      ·
        refine g_iload_n h dX12_tableOf_43 2 rfl ?_
        exact g_iret h hQ dX12_tableOf_44 (congrArg (fun z => some (Value.int z)) (show (mkS (fun j => decide (0 < rs (rts μ i 6) j)) (nN μ)) = s by rw [hs, show j = nN μ from by omega])) (by assumption)
      ·
        refine g_iload_n h dX12_tableOf_18 2 rfl ?_
        refine g_aload_n h dX12_tableOf_19 0 rfl ?_
        refine g_getr h dX12_tableOf_20 gX12_42 sc_0 rfl ?_
        refine g_iload_n h dX12_tableOf_23 3 rfl ?_
        refine g_iald h dX12_tableOf_24 sc_9 (by omega) ?_
        refine g_top (y := (nI (rs (rts μ i 6) j))) ((hcRR_σ_1 j (by omega)).1) ?_
        refine g_ifN_le h dX12_tableOf_25 (by omega) (fun c25 => ?_) (fun c25 => ?_)
        ·
          refine g_iconst h dX12_tableOf_34 (by decide) ?_
          refine g_ior h dX12_tableOf_35  ?_
          refine g_istore_n (L' := [(0, .ref (w.1 0)), (1, .int (nI i)), (2, .int (s ||| (nI 0))), (3, .int (nI j))]) h dX12_tableOf_36 rfl (by decide) rfl ?_
          refine g_iincN (b := 1) (L' := [(0, .ref (w.1 0)), (1, .int (nI i)), (2, .int (s ||| (nI 0))), (3, .int (nI (j + 1)))]) h dX12_tableOf_37 3 rfl rfl (by decide) (by decide) rfl ?_
          refine g_goto h dX12_tableOf_40 ?_
          exact ih9 (s ||| (nI 0)) (j + 1) (by first | rfl | (simp [hs, mkS, orS, fN, or_n0, ful, lsO, bst, c15, c25]; done) | (simp_all [mkS, orS, fN, or_n0, ful, lsO, bst]; done) | fail | fail) (by omega) (by omega)
        ·
          refine g_iconst h dX12_tableOf_28 (by decide) ?_
          refine g_iload_n h dX12_tableOf_29 3 rfl ?_
          refine g_ishl h dX12_tableOf_30  ?_
          refine g_top (y := bt1 j) rfl ?_
          refine g_goto h dX12_tableOf_31 ?_
          refine g_ior h dX12_tableOf_35  ?_
          refine g_istore_n (L' := [(0, .ref (w.1 0)), (1, .int (nI i)), (2, .int (s ||| (bt1 j))), (3, .int (nI j))]) h dX12_tableOf_36 rfl (by decide) rfl ?_
          refine g_iincN (b := 1) (L' := [(0, .ref (w.1 0)), (1, .int (nI i)), (2, .int (s ||| (bt1 j))), (3, .int (nI (j + 1)))]) h dX12_tableOf_37 3 rfl rfl (by decide) (by decide) rfl ?_
          refine g_goto h dX12_tableOf_40 ?_
          exact ih9 (s ||| (bt1 j)) (j + 1) (by first | rfl | (simp [hs, mkS, orS, fN, or_n0, ful, lsO, bst, c15, c25]; done) | (simp_all [mkS, orS, fN, or_n0, ful, lsO, bst]; done) | fail | fail) (by omega) (by omega)
  exact lp9 (_) (nI 0) 0 (by first | rfl | (simp [mkS, orS, fN, or_n0, ful, lsO, bst]; done) | fail | fail) (by omega) (Nat.lt_succ_self _)

set_option maxRecDepth 100000 in
set_option maxHeartbeats 4000000 in
theorem r_isBack {l : Launch} {w : Wd} (hW : Wi w) {σ : Mem} (z : Int32) (μ : Nat → Int32) (hv : vw 0 σ = μ) (hI : MI μ) : MC l w qX12_isBack 4 [.ref (w.1 0), .int z] σ (some (.int (b2i (bkB μ z)))) (fun σ' => σ' = σ) := by
  refine MC.of hW (by decide +kernel) (Nat.le_of_ble_eq_true rfl) (fun X h hQ hnm => ?_)
  have h : Fx X w cX12_isBack 6 RX12 4 := h
  have hQ : Qx X w (some .boolean) (some (.int (b2i (bkB μ z)))) (fun σ' => σ' = σ) := hQ
  have hN8 := mi_8 hI
  show G X w 6 0 [(0, .ref (w.1 0)), (1, .int z)] [] σ
  refine g_iload_n h dX12_isBack_0 1 rfl ?_
  refine g_aload_n h dX12_isBack_1 0 rfl ?_
  refine g_iconst h dX12_isBack_2 (by decide) ?_
  refine g_cvpi (rest := [.int z]) h (r_of hW 1 μ (by assumption) (by omega)) lX12_of mX12_61 (Nat.lt_of_lt_of_le (by decide) (Nat.le_refl _)) (by decide) sc_0 rfl rfl rfl rfl dX12_isBack_3 ?_
  refine g_iconstv h dX12_isBack_6 (v := (-1)) (by decide) ?_
  refine g_ixor h dX12_isBack_7  ?_
  refine g_top (y := nots (μ 1)) rfl ?_
  refine g_iand h dX12_isBack_8  ?_
  refine g_if_eq h dX12_isBack_9 (fun c9 => ?_) (fun c9 => ?_)
  ·
    refine g_iconstv h dX12_isBack_14 (v := (-1)) (by decide) ?_
    refine g_istore_n (L' := [(0, .ref (w.1 0)), (1, .int z), (2, .int (-1))]) h dX12_isBack_15 rfl (by decide) rfl ?_
    refine g_iconst h dX12_isBack_16 (by decide) ?_
    refine g_istore_n (L' := [(0, .ref (w.1 0)), (1, .int z), (2, .int (-1)), (3, .int (nI 0))]) h dX12_isBack_17 rfl (by decide) rfl ?_
    have lp18 : ∀ (k9 : Nat) (v : Option Nat) (a : Nat), (v = fs (fun q => tb z q) a) → (a ≤ nN μ) → (∀ x, x < a → tb (μ 1) x = true → cvB μ z x = true) → nN μ - a < k9 → G X w 6 18 [(0, .ref (w.1 0)), (1, .int z), (2, .int (oI v)), (3, .int (nI a))] [] σ := by
      intro k9
      induction k9 with
      | zero => intro v a hv2 ha hc hm9; exact absurd hm9 (Nat.not_lt_zero _)
      | succ k9 ih18 =>
        intro v a hv2 ha hc hm18
        refine g_iload_n h dX12_isBack_18 3 rfl ?_
        refine g_aload_n h dX12_isBack_19 0 rfl ?_
        refine g_iconst h dX12_isBack_20 (by decide) ?_
        refine g_cvpi (rest := [.int (nI a)]) h (r_of hW 0 μ (by assumption) (by omega)) lX12_of mX12_61 (Nat.lt_of_lt_of_le (by decide) (Nat.le_refl _)) (by decide) sc_0 rfl rfl rfl rfl dX12_isBack_21 ?_
        refine g_top (y := nI (nN μ)) (mi_0 (by assumption)) ?_
        refine g_icmpN_ge h dX12_isBack_24 (by omega) (by omega) (fun c24 => ?_) (fun c24 => ?_)
        ·
          have hvE : fs (fun q => tb z q) 8 = v := by rw [← fs_N8 hI c9, hv2, show a = nN μ from by omega]
          refine g_iconst h dX12_isBack_124 (by decide) ?_
          refine g_istore_n (L' := [(0, .ref (w.1 0)), (1, .int z), (2, .int (oI v)), (3, .int (nI 0))]) h dX12_isBack_125 rfl (by decide) rfl ?_
          have lp126 : ∀ (k9 : Nat) (a2 : Nat), (a2 ≤ nN μ) → (∀ w, fs (fun q => tb z q) 8 = some w → ∀ x, x < a2 → tb z x = true → x ≠ w → fB μ z w x ≠ 0) → nN μ - a2 < k9 → G X w 6 126 [(0, .ref (w.1 0)), (1, .int z), (2, .int (oI v)), (3, .int (nI a2))] [] σ := by
            intro k9
            induction k9 with
            | zero => intro a2 ha2 hf hm9; exact absurd hm9 (Nat.not_lt_zero _)
            | succ k9 ih126 =>
              intro a2 ha2 hf hm126
              refine g_iload_n h dX12_isBack_126 3 rfl ?_
              refine g_aload_n h dX12_isBack_127 0 rfl ?_
              refine g_iconst h dX12_isBack_128 (by decide) ?_
              refine g_cvpi (rest := [.int (nI a2)]) h (r_of hW 0 μ (by assumption) (by omega)) lX12_of mX12_61 (Nat.lt_of_lt_of_le (by decide) (Nat.le_refl _)) (by decide) sc_0 rfl rfl rfl rfl dX12_isBack_129 ?_
              refine g_top (y := nI (nN μ)) (mi_0 (by assumption)) ?_
              refine g_icmpN_ge h dX12_isBack_132 (by omega) (by omega) (fun c132 => ?_) (fun c132 => ?_)
              ·
                refine g_iconst h dX12_isBack_166 (by decide) ?_
                exact g_zret h hQ dX12_isBack_167 (show narrow .boolean (.int (b2i true)) = .int (b2i true) from narrow_b2i _) (congrArg (fun z => some (Value.int (b2i z))) (show (bkB μ z) = true by first | exact bk_off c9 | exact bk_unc hI (by assumption) (by unfold cvB; rw [← show b = nN μ from by omega, ← hby]; assumption) | exact bk_far hvE c140 c145 (by omega) | exact bk_yes hI c9 (fun x hx => hc x (by omega)) (fun w hw x hx => hf w hw x (by omega)) | fail)) rfl
              ·
                refine g_iload_n h dX12_isBack_135 1 rfl ?_
                refine g_iload_n h dX12_isBack_136 3 rfl ?_
                refine g_cspi (rest := []) h (r_has hW z a2 (by omega)) lX12_has mX12_65 (Nat.lt_of_lt_of_le (by decide) (Nat.le_refl _)) (by decide) rfl rfl rfl dX12_isBack_137 ?_
                refine g_ifB_eq h dX12_isBack_140 (fun c140 => ?_) (fun c140 => ?_)
                ·
                  refine g_iincN (b := 1) (L' := [(0, .ref (w.1 0)), (1, .int z), (2, .int (oI v)), (3, .int (nI (a2 + 1)))]) h dX12_isBack_160 3 rfl rfl (by decide) (by decide) rfl ?_
                  refine g_goto h dX12_isBack_163 ?_
                  exact ih126 (a2 + 1) (by omega) (by intro w9 hw9 x hx hx2 hx3; exact if e9 : x = a2 then (by subst e9; first | (rw [hx2] at c140; cases c140; done) | (rw [hvE] at hw9; cases hw9; first | exact absurd c145 hx3 | omega)) else hf w9 hw9 x (by omega) hx2 hx3) (by omega)
                ·
                  obtain ⟨wq, hwq⟩ : ∃ w, v = some w := by cases e9 : v with | none => (have := fs_no (hvE.trans e9) a2 (by omega); rw [c140] at this; cases this) | some w => exact ⟨w, rfl⟩
                  subst hwq
                  have hw8 := (fs_lt hvE).1
                  show G X w 6 143 [(0, .ref (w.1 0)), (1, .int z), (2, .int (nI wq)), (3, .int (nI a2))] [] σ
                  refine g_iload_n h dX12_isBack_143 3 rfl ?_
                  refine g_iload_n h dX12_isBack_144 2 rfl ?_
                  refine g_icmpN_eq h dX12_isBack_145 (by omega) (by omega) (fun c145 => ?_) (fun c145 => ?_)
                  ·
                    refine g_iincN (b := 1) (L' := [(0, .ref (w.1 0)), (1, .int z), (2, .int (nI wq)), (3, .int (nI (a2 + 1)))]) h dX12_isBack_160 3 rfl rfl (by decide) (by decide) rfl ?_
                    refine g_goto h dX12_isBack_163 ?_
                    exact ih126 (a2 + 1) (by omega) (by intro w9 hw9 x hx hx2 hx3; exact if e9 : x = a2 then (by subst e9; first | (rw [hx2] at c140; cases c140; done) | (rw [hvE] at hw9; cases hw9; first | exact absurd c145 hx3 | omega)) else hf w9 hw9 x (by omega) hx2 hx3) (by omega)
                  ·
                    refine g_aload_n h dX12_isBack_148 0 rfl ?_
                    refine g_iload_n h dX12_isBack_149 2 rfl ?_
                    refine g_iload_n h dX12_isBack_150 3 rfl ?_
                    refine g_iload_n h dX12_isBack_151 1 rfl ?_
                    refine g_cvpi (rest := []) h (r_farBy hW wq a2 z μ (by first | exact hv | assumption | fail) (by assumption) (by omega) (by omega)) lX12_farBy mX12_324 (Nat.lt_of_lt_of_le (by decide) (Nat.le_refl _)) (by decide) sc_0 rfl rfl rfl rfl dX12_isBack_152 ?_
                    have hfb := fB_lt (μ := μ) (st := z) (f := wq) (t := a2)
                    refine g_ifN_ne h dX12_isBack_155 (by omega) (fun c155 => ?_) (fun c155 => ?_)
                    ·
                      refine g_iincN (b := 1) (L' := [(0, .ref (w.1 0)), (1, .int z), (2, .int (nI wq)), (3, .int (nI (a2 + 1)))]) h dX12_isBack_160 3 rfl rfl (by decide) (by decide) rfl ?_
                      refine g_goto h dX12_isBack_163 ?_
                      exact ih126 (a2 + 1) (by omega) (by intro w9 hw9 x hx hx2 hx3; exact if e9 : x = a2 then (by subst e9; first | (rw [hx2] at c140; cases c140; done) | (rw [hvE] at hw9; cases hw9; first | exact absurd c145 hx3 | omega)) else hf w9 hw9 x (by omega) hx2 hx3) (by omega)
                    ·
                      refine g_iconst h dX12_isBack_158 (by decide) ?_
                      exact g_zret h hQ dX12_isBack_159 (show narrow .boolean (.int (b2i false)) = .int (b2i false) from narrow_b2i _) (congrArg (fun z => some (Value.int (b2i z))) (show (bkB μ z) = false by first | exact bk_off c9 | exact bk_unc hI (by assumption) (by unfold cvB; rw [← show b = nN μ from by omega, ← hby]; assumption) | exact bk_far hvE c140 c145 (by omega) | exact bk_yes hI c9 (fun x hx => hc x (by omega)) (fun w hw x hx => hf w hw x (by omega)) | fail)) rfl
          exact lp126 (_) 0 (by omega) (by intro w hw x hx; omega) (Nat.lt_succ_self _)
        ·
          refine g_iload_n h dX12_isBack_27 1 rfl ?_
          refine g_iload_n h dX12_isBack_28 3 rfl ?_
          refine g_cspi (rest := []) h (r_has hW z a (by omega)) lX12_has mX12_65 (Nat.lt_of_lt_of_le (by decide) (Nat.le_refl _)) (by decide) rfl rfl rfl dX12_isBack_29 ?_
          refine g_istore (L' := [(0, .ref (w.1 0)), (1, .int z), (2, .int (oI v)), (3, .int (nI a)), (4, .int (b2i (tb z a)))]) h dX12_isBack_32 rfl (by decide) rfl ?_
          refine g_iconst h dX12_isBack_34 (by decide) ?_
          refine g_istore (L' := [(0, .ref (w.1 0)), (1, .int z), (2, .int (oI v)), (3, .int (nI a)), (4, .int (b2i (tb z a))), (5, .int (nI 0))]) h dX12_isBack_35 rfl (by decide) rfl ?_
          have lp37 : ∀ (k9 : Nat) (by_ : Bool) (b : Nat), (by_ = (tb z a || anyB (fun b => tb z b && prB μ a b) b)) → (b ≤ nN μ) → nN μ - b < k9 → G X w 6 37 [(0, .ref (w.1 0)), (1, .int z), (2, .int (oI v)), (3, .int (nI a)), (4, .int (b2i by_)), (5, .int (nI b))] [] σ := by
            intro k9
            induction k9 with
            | zero => intro by_ b hby hb hm9; exact absurd hm9 (Nat.not_lt_zero _)
            | succ k9 ih37 =>
              intro by_ b hby hb hm37
              refine g_iload h dX12_isBack_37 5 rfl ?_
              refine g_aload_n h dX12_isBack_39 0 rfl ?_
              refine g_iconst h dX12_isBack_40 (by decide) ?_
              refine g_cvpi (rest := [.int (nI b)]) h (r_of hW 0 μ (by assumption) (by omega)) lX12_of mX12_61 (Nat.lt_of_lt_of_le (by decide) (Nat.le_refl _)) (by decide) sc_0 rfl rfl rfl rfl dX12_isBack_41 ?_
              refine g_top (y := nI (nN μ)) (mi_0 (by assumption)) ?_
              refine g_icmpN_ge h dX12_isBack_44 (by omega) (by omega) (fun c44 => ?_) (fun c44 => ?_)
              ·
                refine g_aload_n h dX12_isBack_84 0 rfl ?_
                refine g_iload_n h dX12_isBack_85 3 rfl ?_
                refine g_cvpi (rest := []) h (r_isOn hW a μ (by assumption) (by omega)) lX12_isOn mX12_114 (Nat.lt_of_lt_of_le (by decide) (Nat.le_refl _)) (by decide) sc_0 rfl rfl rfl rfl dX12_isBack_86 ?_
                refine g_ifB_eq h dX12_isBack_89 (fun c89 => ?_) (fun c89 => ?_)
                ·
                  rcases v with _ | wv
                  ·
                    show G X w 6 99 [(0, .ref (w.1 0)), (1, .int z), (2, .int (-1)), (3, .int (nI a)), (4, .int (b2i by_)), (5, .int (nI b))] [] σ
                    refine g_iload_n h dX12_isBack_99 2 rfl ?_
                    refine g_iconstv h dX12_isBack_100 (v := (-1)) (by decide) ?_
                    refine g_icmp_ne h dX12_isBack_101 (fun c101 => (by exfalso; first | exact c101 rfl | exact nI_ne_m1 (by omega) c101 | exact c101 (nI_ne_m1 (by omega)) | exact nI_le_m1 (by omega) c101 | exact c101 (m1_lt (by omega)) | exact absurd c101 (by decide))) (fun c101 => ?_)
                    refine g_iload_n h dX12_isBack_104 1 rfl ?_
                    refine g_iload_n h dX12_isBack_105 3 rfl ?_
                    refine g_cspi (rest := []) h (r_has hW z a (by omega)) lX12_has mX12_65 (Nat.lt_of_lt_of_le (by decide) (Nat.le_refl _)) (by decide) rfl rfl rfl dX12_isBack_106 ?_
                    refine g_ifB_eq h dX12_isBack_109 (fun c109 => ?_) (fun c109 => ?_)
                    ·
                      refine g_iload_n h dX12_isBack_116 2 rfl ?_
                      refine g_istore_n (L' := [(0, .ref (w.1 0)), (1, .int z), (2, .int (-1)), (3, .int (nI a)), (4, .int (b2i by_)), (5, .int (nI b))]) h dX12_isBack_117 rfl (by decide) rfl ?_
                      refine g_iincN (b := 1) (L' := [(0, .ref (w.1 0)), (1, .int z), (2, .int (-1)), (3, .int (nI (a + 1))), (4, .int (b2i by_)), (5, .int (nI b))]) h dX12_isBack_118 3 rfl rfl (by decide) (by decide) rfl ?_
                      refine g_goto h dX12_isBack_121 ?_
                      exact g_sub [0, 1, 2, 3] rfl (ih18 none (a + 1) (by simp only [fs]; first | (rw [← hv2]; done) | (rw [← hv2]; simp [c9, c24, c44, c89, c109]; done) | (rw [← hv2]; rfl)) (by omega) (by intro x hx hx2; exact if e9 : x = a then (by subst e9; first | (rw [hx2] at c89; cases c89; done) | (unfold cvB; rw [← show b = nN μ from by omega, ← hby]; exact c94)) else hc x (by omega) hx2) (by omega))
                    ·
                      refine g_iload_n h dX12_isBack_112 3 rfl ?_
                      refine g_goto h dX12_isBack_113 ?_
                      refine g_istore_n (L' := [(0, .ref (w.1 0)), (1, .int z), (2, .int (nI a)), (3, .int (nI a)), (4, .int (b2i by_)), (5, .int (nI b))]) h dX12_isBack_117 rfl (by decide) rfl ?_
                      refine g_iincN (b := 1) (L' := [(0, .ref (w.1 0)), (1, .int z), (2, .int (nI a)), (3, .int (nI (a + 1))), (4, .int (b2i by_)), (5, .int (nI b))]) h dX12_isBack_118 3 rfl rfl (by decide) (by decide) rfl ?_
                      refine g_goto h dX12_isBack_121 ?_
                      exact g_sub [0, 1, 2, 3] rfl (ih18 (some a) (a + 1) (by simp only [fs]; first | (rw [← hv2]; done) | (rw [← hv2]; simp [c9, c24, c44, c89, c109]; done) | (rw [← hv2]; rfl)) (by omega) (by intro x hx hx2; exact if e9 : x = a then (by subst e9; first | (rw [hx2] at c89; cases c89; done) | (unfold cvB; rw [← show b = nN μ from by omega, ← hby]; exact c94)) else hc x (by omega) hx2) (by omega))
                  ·
                    have hwv := (fs_lt hv2.symm).1
                    show G X w 6 99 [(0, .ref (w.1 0)), (1, .int z), (2, .int (nI wv)), (3, .int (nI a)), (4, .int (b2i by_)), (5, .int (nI b))] [] σ
                    refine g_iload_n h dX12_isBack_99 2 rfl ?_
                    refine g_iconstv h dX12_isBack_100 (v := (-1)) (by decide) ?_
                    refine g_icmp_ne h dX12_isBack_101 (fun c101 => ?_) (fun c101 => (by exfalso; first | exact c101 rfl | exact nI_ne_m1 (by omega) c101 | exact c101 (nI_ne_m1 (by omega)) | exact nI_le_m1 (by omega) c101 | exact c101 (m1_lt (by omega)) | exact absurd c101 (by decide)))
                    refine g_iload_n h dX12_isBack_116 2 rfl ?_
                    refine g_istore_n (L' := [(0, .ref (w.1 0)), (1, .int z), (2, .int (nI wv)), (3, .int (nI a)), (4, .int (b2i by_)), (5, .int (nI b))]) h dX12_isBack_117 rfl (by decide) rfl ?_
                    refine g_iincN (b := 1) (L' := [(0, .ref (w.1 0)), (1, .int z), (2, .int (nI wv)), (3, .int (nI (a + 1))), (4, .int (b2i by_)), (5, .int (nI b))]) h dX12_isBack_118 3 rfl rfl (by decide) (by decide) rfl ?_
                    refine g_goto h dX12_isBack_121 ?_
                    exact g_sub [0, 1, 2, 3] rfl (ih18 (some wv) (a + 1) (by simp only [fs]; first | (rw [← hv2]; done) | (rw [← hv2]; simp [c9, c24, c44, c89]; done) | (rw [← hv2]; rfl)) (by omega) (by intro x hx hx2; exact if e9 : x = a then (by subst e9; first | (rw [hx2] at c89; cases c89; done) | (unfold cvB; rw [← show b = nN μ from by omega, ← hby]; exact c94)) else hc x (by omega) hx2) (by omega))
                ·
                  refine g_iload h dX12_isBack_92 4 rfl ?_
                  refine g_ifB_ne h dX12_isBack_94 (fun c94 => ?_) (fun c94 => ?_)
                  ·
                    rcases v with _ | wv
                    ·
                      show G X w 6 99 [(0, .ref (w.1 0)), (1, .int z), (2, .int (-1)), (3, .int (nI a)), (4, .int (b2i by_)), (5, .int (nI b))] [] σ
                      refine g_iload_n h dX12_isBack_99 2 rfl ?_
                      refine g_iconstv h dX12_isBack_100 (v := (-1)) (by decide) ?_
                      refine g_icmp_ne h dX12_isBack_101 (fun c101 => (by exfalso; first | exact c101 rfl | exact nI_ne_m1 (by omega) c101 | exact c101 (nI_ne_m1 (by omega)) | exact nI_le_m1 (by omega) c101 | exact c101 (m1_lt (by omega)) | exact absurd c101 (by decide))) (fun c101 => ?_)
                      refine g_iload_n h dX12_isBack_104 1 rfl ?_
                      refine g_iload_n h dX12_isBack_105 3 rfl ?_
                      refine g_cspi (rest := []) h (r_has hW z a (by omega)) lX12_has mX12_65 (Nat.lt_of_lt_of_le (by decide) (Nat.le_refl _)) (by decide) rfl rfl rfl dX12_isBack_106 ?_
                      refine g_ifB_eq h dX12_isBack_109 (fun c109 => ?_) (fun c109 => ?_)
                      ·
                        refine g_iload_n h dX12_isBack_116 2 rfl ?_
                        refine g_istore_n (L' := [(0, .ref (w.1 0)), (1, .int z), (2, .int (-1)), (3, .int (nI a)), (4, .int (b2i by_)), (5, .int (nI b))]) h dX12_isBack_117 rfl (by decide) rfl ?_
                        refine g_iincN (b := 1) (L' := [(0, .ref (w.1 0)), (1, .int z), (2, .int (-1)), (3, .int (nI (a + 1))), (4, .int (b2i by_)), (5, .int (nI b))]) h dX12_isBack_118 3 rfl rfl (by decide) (by decide) rfl ?_
                        refine g_goto h dX12_isBack_121 ?_
                        exact g_sub [0, 1, 2, 3] rfl (ih18 none (a + 1) (by simp only [fs]; first | (rw [← hv2]; done) | (rw [← hv2]; simp [c9, c24, c44, c89, c94, c109]; done) | (rw [← hv2]; rfl)) (by omega) (by intro x hx hx2; exact if e9 : x = a then (by subst e9; first | (rw [hx2] at c89; cases c89; done) | (unfold cvB; rw [← show b = nN μ from by omega, ← hby]; exact c94)) else hc x (by omega) hx2) (by omega))
                      ·
                        refine g_iload_n h dX12_isBack_112 3 rfl ?_
                        refine g_goto h dX12_isBack_113 ?_
                        refine g_istore_n (L' := [(0, .ref (w.1 0)), (1, .int z), (2, .int (nI a)), (3, .int (nI a)), (4, .int (b2i by_)), (5, .int (nI b))]) h dX12_isBack_117 rfl (by decide) rfl ?_
                        refine g_iincN (b := 1) (L' := [(0, .ref (w.1 0)), (1, .int z), (2, .int (nI a)), (3, .int (nI (a + 1))), (4, .int (b2i by_)), (5, .int (nI b))]) h dX12_isBack_118 3 rfl rfl (by decide) (by decide) rfl ?_
                        refine g_goto h dX12_isBack_121 ?_
                        exact g_sub [0, 1, 2, 3] rfl (ih18 (some a) (a + 1) (by simp only [fs]; first | (rw [← hv2]; done) | (rw [← hv2]; simp [c9, c24, c44, c89, c94, c109]; done) | (rw [← hv2]; rfl)) (by omega) (by intro x hx hx2; exact if e9 : x = a then (by subst e9; first | (rw [hx2] at c89; cases c89; done) | (unfold cvB; rw [← show b = nN μ from by omega, ← hby]; exact c94)) else hc x (by omega) hx2) (by omega))
                    ·
                      have hwv := (fs_lt hv2.symm).1
                      show G X w 6 99 [(0, .ref (w.1 0)), (1, .int z), (2, .int (nI wv)), (3, .int (nI a)), (4, .int (b2i by_)), (5, .int (nI b))] [] σ
                      refine g_iload_n h dX12_isBack_99 2 rfl ?_
                      refine g_iconstv h dX12_isBack_100 (v := (-1)) (by decide) ?_
                      refine g_icmp_ne h dX12_isBack_101 (fun c101 => ?_) (fun c101 => (by exfalso; first | exact c101 rfl | exact nI_ne_m1 (by omega) c101 | exact c101 (nI_ne_m1 (by omega)) | exact nI_le_m1 (by omega) c101 | exact c101 (m1_lt (by omega)) | exact absurd c101 (by decide)))
                      refine g_iload_n h dX12_isBack_116 2 rfl ?_
                      refine g_istore_n (L' := [(0, .ref (w.1 0)), (1, .int z), (2, .int (nI wv)), (3, .int (nI a)), (4, .int (b2i by_)), (5, .int (nI b))]) h dX12_isBack_117 rfl (by decide) rfl ?_
                      refine g_iincN (b := 1) (L' := [(0, .ref (w.1 0)), (1, .int z), (2, .int (nI wv)), (3, .int (nI (a + 1))), (4, .int (b2i by_)), (5, .int (nI b))]) h dX12_isBack_118 3 rfl rfl (by decide) (by decide) rfl ?_
                      refine g_goto h dX12_isBack_121 ?_
                      exact g_sub [0, 1, 2, 3] rfl (ih18 (some wv) (a + 1) (by simp only [fs]; first | (rw [← hv2]; done) | (rw [← hv2]; simp [c9, c24, c44, c89, c94]; done) | (rw [← hv2]; rfl)) (by omega) (by intro x hx hx2; exact if e9 : x = a then (by subst e9; first | (rw [hx2] at c89; cases c89; done) | (unfold cvB; rw [← show b = nN μ from by omega, ← hby]; exact c94)) else hc x (by omega) hx2) (by omega))
                  ·
                    refine g_iconst h dX12_isBack_97 (by decide) ?_
                    exact g_zret h hQ dX12_isBack_98 (show narrow .boolean (.int (b2i false)) = .int (b2i false) from narrow_b2i _) (congrArg (fun z => some (Value.int (b2i z))) (show (bkB μ z) = false by first | exact bk_off c9 | exact bk_unc hI (by assumption) (by unfold cvB; rw [← show b = nN μ from by omega, ← hby]; assumption) | exact bk_far hvE c140 c145 (by omega) | exact bk_yes hI c9 (fun x hx => hc x (by omega)) (fun w hw x hx => hf w hw x (by omega)) | fail)) rfl
              ·
                refine g_iload h dX12_isBack_47 4 rfl ?_
                refine g_ifB_ne h dX12_isBack_49 (fun c49 => ?_) (fun c49 => ?_)
                ·
                  refine g_iconst h dX12_isBack_71 (by decide) ?_
                  refine g_goto h dX12_isBack_72 ?_
                  refine g_istore (L' := [(0, .ref (w.1 0)), (1, .int z), (2, .int (oI v)), (3, .int (nI a)), (4, .int (nI 1)), (5, .int (nI b))]) h dX12_isBack_76 rfl (by decide) rfl ?_
                  refine g_iincN (b := 1) (L' := [(0, .ref (w.1 0)), (1, .int z), (2, .int (oI v)), (3, .int (nI a)), (4, .int (nI 1)), (5, .int (nI (b + 1)))]) h dX12_isBack_78 5 rfl rfl (by decide) (by decide) rfl ?_
                  refine g_goto h dX12_isBack_81 ?_
                  exact ih37 true (b + 1) (by simp only [anyB]; rw [← Bool.or_assoc, ← hby]; simp [c9, c24, c44, c49]) (by omega) (by omega)
                ·
                  refine g_iload_n h dX12_isBack_52 1 rfl ?_
                  refine g_iload h dX12_isBack_53 5 rfl ?_
                  refine g_cspi (rest := []) h (r_has hW z b (by omega)) lX12_has mX12_65 (Nat.lt_of_lt_of_le (by decide) (Nat.le_refl _)) (by decide) rfl rfl rfl dX12_isBack_55 ?_
                  refine g_ifB_eq h dX12_isBack_58 (fun c58 => ?_) (fun c58 => ?_)
                  ·
                    refine g_iconst h dX12_isBack_75 (by decide) ?_
                    refine g_istore (L' := [(0, .ref (w.1 0)), (1, .int z), (2, .int (oI v)), (3, .int (nI a)), (4, .int (nI 0)), (5, .int (nI b))]) h dX12_isBack_76 rfl (by decide) rfl ?_
                    refine g_iincN (b := 1) (L' := [(0, .ref (w.1 0)), (1, .int z), (2, .int (oI v)), (3, .int (nI a)), (4, .int (nI 0)), (5, .int (nI (b + 1)))]) h dX12_isBack_78 5 rfl rfl (by decide) (by decide) rfl ?_
                    refine g_goto h dX12_isBack_81 ?_
                    exact ih37 false (b + 1) (by simp only [anyB]; rw [← Bool.or_assoc, ← hby]; simp [c9, c24, c44, c49, c58]) (by omega) (by omega)
                  ·
                    refine g_aload_n h dX12_isBack_61 0 rfl ?_
                    refine g_iload_n h dX12_isBack_62 3 rfl ?_
                    refine g_iload h dX12_isBack_63 5 rfl ?_
                    refine g_cvpi (rest := []) h (r_isPair hW a b μ (by first | exact hv | assumption | fail) (by assumption) (by omega) (by omega)) lX12_isPair mX12_321 (Nat.lt_of_lt_of_le (by decide) (Nat.le_refl _)) (by decide) sc_0 rfl rfl rfl rfl dX12_isBack_65 ?_
                    refine g_ifB_eq h dX12_isBack_68 (fun c68 => ?_) (fun c68 => ?_)
                    ·
                      refine g_iconst h dX12_isBack_75 (by decide) ?_
                      refine g_istore (L' := [(0, .ref (w.1 0)), (1, .int z), (2, .int (oI v)), (3, .int (nI a)), (4, .int (nI 0)), (5, .int (nI b))]) h dX12_isBack_76 rfl (by decide) rfl ?_
                      refine g_iincN (b := 1) (L' := [(0, .ref (w.1 0)), (1, .int z), (2, .int (oI v)), (3, .int (nI a)), (4, .int (nI 0)), (5, .int (nI (b + 1)))]) h dX12_isBack_78 5 rfl rfl (by decide) (by decide) rfl ?_
                      refine g_goto h dX12_isBack_81 ?_
                      exact ih37 false (b + 1) (by simp only [anyB]; rw [← Bool.or_assoc, ← hby]; simp [c9, c24, c44, c49, c58, c68]) (by omega) (by omega)
                    ·
                      refine g_iconst h dX12_isBack_71 (by decide) ?_
                      refine g_goto h dX12_isBack_72 ?_
                      refine g_istore (L' := [(0, .ref (w.1 0)), (1, .int z), (2, .int (oI v)), (3, .int (nI a)), (4, .int (nI 1)), (5, .int (nI b))]) h dX12_isBack_76 rfl (by decide) rfl ?_
                      refine g_iincN (b := 1) (L' := [(0, .ref (w.1 0)), (1, .int z), (2, .int (oI v)), (3, .int (nI a)), (4, .int (nI 1)), (5, .int (nI (b + 1)))]) h dX12_isBack_78 5 rfl rfl (by decide) (by decide) rfl ?_
                      refine g_goto h dX12_isBack_81 ?_
                      exact ih37 true (b + 1) (by simp only [anyB]; rw [← Bool.or_assoc, ← hby]; simp [c9, c24, c44, c49, c58, c68]) (by omega) (by omega)
          exact lp37 (_) (tb z a) 0 (by simp [anyB]) (by omega) (Nat.lt_succ_self _)
    exact lp18 (_) none 0 (by rfl) (by omega) (by intro x hx; omega) (Nat.lt_succ_self _)
  ·
    refine g_iconst h dX12_isBack_12 (by decide) ?_
    exact g_zret h hQ dX12_isBack_13 (show narrow .boolean (.int (b2i false)) = .int (b2i false) from narrow_b2i _) (congrArg (fun z => some (Value.int (b2i z))) (show (bkB μ z) = false by first | exact bk_off c9 | exact bk_unc hI (by assumption) (by unfold cvB; rw [← show b = nN μ from by omega, ← hby]; assumption) | exact bk_far hvE c140 c145 (by omega) | exact bk_yes hI c9 (fun x hx => hc x (by omega)) (fun w hw x hx => hf w hw x (by omega)) | fail)) rfl

set_option maxRecDepth 100000 in
set_option maxHeartbeats 4000000 in
theorem r_wrongOf {l : Launch} {w : Wd} (hW : Wi w) {σ : Mem} (i wt : Nat) (μ : Nat → Int32) (hv : vw 0 σ = μ) (hI : MI μ) (hi : i < 8) (hw : wt ≤ 2) : MC l w qX12_wrongOf 5 [.ref (w.1 0), .int (nI i), .int (nI wt)] σ (some (.int (wrS μ i wt))) (fun σ' => (∀ a, (a < 5150 ∨ 5168 ≤ a) → σ' a = σ a)) := by
  refine MC.of hW (by decide +kernel) (Nat.le_of_ble_eq_true rfl) (fun X h hQ hnm => ?_)
  have h : Fx X w cX12_wrongOf 7 RX12 5 := h
  have hQ : Qx X w (some .int) (some (.int (wrS μ i wt))) (fun σ' => (∀ a, (a < 5150 ∨ 5168 ≤ a) → σ' a = σ a)) := hQ
  have hN8 := mi_8 hI
  show G X w 7 0 [(0, .ref (w.1 0)), (1, .int (nI i)), (2, .int (nI wt))] [] σ
  refine g_iconst h dX12_wrongOf_0 (by decide) ?_
  refine g_istore_n (L' := [(0, .ref (w.1 0)), (1, .int (nI i)), (2, .int (nI wt)), (3, .int (nI 0))]) h dX12_wrongOf_1 rfl (by decide) rfl ?_
  refine g_aload_n h dX12_wrongOf_2 0 rfl ?_
  refine g_iload_n h dX12_wrongOf_3 1 rfl ?_
  refine g_cvv (rest := []) h (r_laysRoutes hW i μ (by first | exact hv | assumption | fail) (by assumption) (by omega)) lX12_laysRoutes mX12_306 (Nat.lt_of_lt_of_le (by decide) (Nat.le_refl _)) (by decide) sc_0 rfl rfl rfl rfl dX12_wrongOf_4 (fun σ_1 eσ_1 => ?_)
  obtain ⟨eσ_1_a, eσ_1_b⟩ := eσ_1
  have eσ_1_a : RR σ_1 (rts μ i 6) := eσ_1_a
  have eσ_1_b : ∀ a, (a < 5150 ∨ 5168 ≤ a) → σ_1 a = σ a := eσ_1_b
  have hcRR_σ_1 : RR σ_1 (rts μ i 6) := eσ_1_a
  have hvσ_1 : vw 0 σ_1 = μ := by rw [vw_fr (σ := σ) (fun j _ _ => eσ_1_b _ (by first | omega | (simp only [vb] at *; omega)))]; first | exact hv | assumption
  refine g_iconst h dX12_wrongOf_7 (by decide) ?_
  refine g_istore (L' := [(0, .ref (w.1 0)), (1, .int (nI i)), (2, .int (nI wt)), (3, .int (nI 0)), (4, .int (nI 0))]) h dX12_wrongOf_8 rfl (by decide) rfl ?_
  have lp10 : ∀ (k9 : Nat) (s : Int32) (j : Nat), (s = mkS (wrB μ i wt) j) → (j ≤ nN μ) → nN μ - j < k9 → G X w 7 10 [(0, .ref (w.1 0)), (1, .int (nI i)), (2, .int (nI wt)), (3, .int s), (4, .int (nI j))] [] σ_1 := by
    intro k9
    induction k9 with
    | zero => intro s j hs hj hm9; exact absurd hm9 (Nat.not_lt_zero _)
    | succ k9 ih10 =>
      intro s j hs hj hm10
      have hbj := rts_rb hI hi 6 (by omega) j
      refine g_iload h dX12_wrongOf_10 4 rfl ?_
      refine g_aload_n h dX12_wrongOf_12 0 rfl ?_
      refine g_iconst h dX12_wrongOf_13 (by decide) ?_
      refine g_cvpi (rest := [.int (nI j)]) h (r_of hW 0 μ (by assumption) (by omega)) lX12_of mX12_61 (Nat.lt_of_lt_of_le (by decide) (Nat.le_refl _)) (by decide) sc_0 rfl rfl rfl rfl dX12_wrongOf_14 ?_
      refine g_top (y := nI (nN μ)) (mi_0 (by assumption)) ?_
      refine g_icmpN_ge h dX12_wrongOf_17 (by omega) (by omega) (fun c17 => ?_) (fun c17 => ?_)
      ·
        refine g_iload_n h dX12_wrongOf_164 3 rfl ?_
        exact g_iret h hQ dX12_wrongOf_165 (congrArg (fun z => some (Value.int z)) (show (wrS μ i wt) = s by unfold wrS; rw [hs, show j = nN μ from by omega])) (by assumption)
      ·
        refine g_iload h dX12_wrongOf_20 4 rfl ?_
        refine g_iload_n h dX12_wrongOf_22 1 rfl ?_
        refine g_icmpN_ne h dX12_wrongOf_23 (by omega) (by omega) (fun c23 => ?_) (fun c23 => ?_)
        ·
          have J49 : ∀ (fr : Nat), (fr = far μ i j) → G X w 7 49 [(0, .ref (w.1 0)), (1, .int (nI i)), (2, .int (nI wt)), (3, .int s), (4, .int (nI j))] [.int (nI fr)] σ_1 := by
            intro fr hfr
            have hfl : fr < 8 := by rw [hfr]; exact far_lt
            refine g_istore (L' := [(0, .ref (w.1 0)), (1, .int (nI i)), (2, .int (nI wt)), (3, .int s), (4, .int (nI j)), (5, .int (nI fr))]) h dX12_wrongOf_49 rfl (by decide) rfl ?_
            refine g_iload_n h dX12_wrongOf_51 2 rfl ?_
            refine g_ifN_ne h dX12_wrongOf_52 (by omega) (fun c52 => ?_) (fun c52 => ?_)
            ·
              refine g_iload_n h dX12_wrongOf_78 2 rfl ?_
              refine g_iconst h dX12_wrongOf_79 (by decide) ?_
              refine g_icmpN_ne h dX12_wrongOf_80 (by omega) (by omega) (fun c80 => ?_) (fun c80 => ?_)
              ·
                refine g_aload_n h dX12_wrongOf_108 0 rfl ?_
                refine g_getr h dX12_wrongOf_109 gX12_42 sc_0 rfl ?_
                refine g_iload h dX12_wrongOf_112 4 rfl ?_
                refine g_iald h dX12_wrongOf_114 sc_9 (by omega) ?_
                refine g_top (y := (nI (rs (rts μ i 6) j))) ((hcRR_σ_1 j (by omega)).1) ?_
                refine g_ifN_le h dX12_wrongOf_115 (by omega) (fun c115 => ?_) (fun c115 => ?_)
                ·
                  refine g_iconst h dX12_wrongOf_139 (by decide) ?_
                  refine g_istore (L' := [(0, .ref (w.1 0)), (1, .int (nI i)), (2, .int (nI wt)), (3, .int s), (4, .int (nI j)), (5, .int (nI fr)), (6, .int (nI 0))]) h dX12_wrongOf_140 rfl (by decide) rfl ?_
                  refine g_iload_n h dX12_wrongOf_142 3 rfl ?_
                  refine g_iload h dX12_wrongOf_143 6 rfl ?_
                  refine g_ifN_eq h dX12_wrongOf_145 (by decide) (fun c145 => ?_) (fun c145 => absurd c145 (by decide))
                  refine g_iconst h dX12_wrongOf_155 (by decide) ?_
                  refine g_ior h dX12_wrongOf_156  ?_
                  refine g_istore_n (L' := [(0, .ref (w.1 0)), (1, .int (nI i)), (2, .int (nI wt)), (3, .int (s ||| (nI 0))), (4, .int (nI j)), (5, .int (nI fr)), (6, .int (nI 0))]) h dX12_wrongOf_157 rfl (by decide) rfl ?_
                  refine g_iincN (b := 1) (L' := [(0, .ref (w.1 0)), (1, .int (nI i)), (2, .int (nI wt)), (3, .int (s ||| (nI 0))), (4, .int (nI (j + 1))), (5, .int (nI fr)), (6, .int (nI 0))]) h dX12_wrongOf_158 4 rfl rfl (by decide) (by decide) rfl ?_
                  refine g_goto h dX12_wrongOf_161 ?_
                  exact g_sub [0, 1, 2, 3, 4] rfl (ih10 (s ||| (nI 0)) (j + 1) (by simp only [mkS]; rw [← hs]; first | (rw [show wrB μ i wt j = false from by rw [c23]; exact wr_self hI hi]; rfl) | (simp [wrB, ← hfr, c17, c23, c52, c80, c115, or_n0]; done) | (simp [wrB, ← hfr, c17, c23, c52, c80, c115, or_n0]; omega)) (by omega) (by omega))
                ·
                  refine g_iload h dX12_wrongOf_118 5 rfl ?_
                  refine g_ifN_eq h dX12_wrongOf_120 (by omega) (fun c120 => ?_) (fun c120 => ?_)
                  ·
                    refine g_iconst h dX12_wrongOf_135 (by decide) ?_
                    refine g_goto h dX12_wrongOf_136 ?_
                    refine g_istore (L' := [(0, .ref (w.1 0)), (1, .int (nI i)), (2, .int (nI wt)), (3, .int s), (4, .int (nI j)), (5, .int (nI fr)), (6, .int (nI 1))]) h dX12_wrongOf_140 rfl (by decide) rfl ?_
                    refine g_iload_n h dX12_wrongOf_142 3 rfl ?_
                    refine g_iload h dX12_wrongOf_143 6 rfl ?_
                    refine g_ifN_eq h dX12_wrongOf_145 (by decide) (fun c145 => absurd c145 (by decide)) (fun c145 => ?_)
                    refine g_iconst h dX12_wrongOf_148 (by decide) ?_
                    refine g_iload h dX12_wrongOf_149 4 rfl ?_
                    refine g_ishl h dX12_wrongOf_151  ?_
                    refine g_top (y := bt1 j) rfl ?_
                    refine g_goto h dX12_wrongOf_152 ?_
                    refine g_ior h dX12_wrongOf_156  ?_
                    refine g_istore_n (L' := [(0, .ref (w.1 0)), (1, .int (nI i)), (2, .int (nI wt)), (3, .int (s ||| (bt1 j))), (4, .int (nI j)), (5, .int (nI fr)), (6, .int (nI 1))]) h dX12_wrongOf_157 rfl (by decide) rfl ?_
                    refine g_iincN (b := 1) (L' := [(0, .ref (w.1 0)), (1, .int (nI i)), (2, .int (nI wt)), (3, .int (s ||| (bt1 j))), (4, .int (nI (j + 1))), (5, .int (nI fr)), (6, .int (nI 1))]) h dX12_wrongOf_158 4 rfl rfl (by decide) (by decide) rfl ?_
                    refine g_goto h dX12_wrongOf_161 ?_
                    exact g_sub [0, 1, 2, 3, 4] rfl (ih10 (s ||| (bt1 j)) (j + 1) (by simp only [mkS]; rw [← hs]; first | (rw [show wrB μ i wt j = false from by rw [c23]; exact wr_self hI hi]; rfl) | (simp [wrB, ← hfr, c17, c23, c52, c80, c115, c120, or_n0]; done) | (simp [wrB, ← hfr, c17, c23, c52, c80, c115, c120, or_n0]; omega)) (by omega) (by omega))
                  ·
                    refine g_iload h dX12_wrongOf_123 5 rfl ?_
                    refine g_aload_n h dX12_wrongOf_125 0 rfl ?_
                    refine g_getr h dX12_wrongOf_126 gX12_42 sc_0 rfl ?_
                    refine g_iload h dX12_wrongOf_129 4 rfl ?_
                    refine g_iald h dX12_wrongOf_131 sc_9 (by omega) ?_
                    refine g_top (y := (nI (rs (rts μ i 6) j))) ((hcRR_σ_1 j (by omega)).1) ?_
                    refine g_icmpN_le h dX12_wrongOf_132 (by omega) (by omega) (fun c132 => ?_) (fun c132 => ?_)
                    ·
                      refine g_iconst h dX12_wrongOf_139 (by decide) ?_
                      refine g_istore (L' := [(0, .ref (w.1 0)), (1, .int (nI i)), (2, .int (nI wt)), (3, .int s), (4, .int (nI j)), (5, .int (nI fr)), (6, .int (nI 0))]) h dX12_wrongOf_140 rfl (by decide) rfl ?_
                      refine g_iload_n h dX12_wrongOf_142 3 rfl ?_
                      refine g_iload h dX12_wrongOf_143 6 rfl ?_
                      refine g_ifN_eq h dX12_wrongOf_145 (by decide) (fun c145 => ?_) (fun c145 => absurd c145 (by decide))
                      refine g_iconst h dX12_wrongOf_155 (by decide) ?_
                      refine g_ior h dX12_wrongOf_156  ?_
                      refine g_istore_n (L' := [(0, .ref (w.1 0)), (1, .int (nI i)), (2, .int (nI wt)), (3, .int (s ||| (nI 0))), (4, .int (nI j)), (5, .int (nI fr)), (6, .int (nI 0))]) h dX12_wrongOf_157 rfl (by decide) rfl ?_
                      refine g_iincN (b := 1) (L' := [(0, .ref (w.1 0)), (1, .int (nI i)), (2, .int (nI wt)), (3, .int (s ||| (nI 0))), (4, .int (nI (j + 1))), (5, .int (nI fr)), (6, .int (nI 0))]) h dX12_wrongOf_158 4 rfl rfl (by decide) (by decide) rfl ?_
                      refine g_goto h dX12_wrongOf_161 ?_
                      exact g_sub [0, 1, 2, 3, 4] rfl (ih10 (s ||| (nI 0)) (j + 1) (by simp only [mkS]; rw [← hs]; first | (rw [show wrB μ i wt j = false from by rw [c23]; exact wr_self hI hi]; rfl) | (simp [wrB, ← hfr, c17, c23, c52, c80, c115, c120, c132, or_n0]; done) | (simp [wrB, ← hfr, c17, c23, c52, c80, c115, c120, c132, or_n0]; omega)) (by omega) (by omega))
                    ·
                      refine g_iconst h dX12_wrongOf_135 (by decide) ?_
                      refine g_goto h dX12_wrongOf_136 ?_
                      refine g_istore (L' := [(0, .ref (w.1 0)), (1, .int (nI i)), (2, .int (nI wt)), (3, .int s), (4, .int (nI j)), (5, .int (nI fr)), (6, .int (nI 1))]) h dX12_wrongOf_140 rfl (by decide) rfl ?_
                      refine g_iload_n h dX12_wrongOf_142 3 rfl ?_
                      refine g_iload h dX12_wrongOf_143 6 rfl ?_
                      refine g_ifN_eq h dX12_wrongOf_145 (by decide) (fun c145 => absurd c145 (by decide)) (fun c145 => ?_)
                      refine g_iconst h dX12_wrongOf_148 (by decide) ?_
                      refine g_iload h dX12_wrongOf_149 4 rfl ?_
                      refine g_ishl h dX12_wrongOf_151  ?_
                      refine g_top (y := bt1 j) rfl ?_
                      refine g_goto h dX12_wrongOf_152 ?_
                      refine g_ior h dX12_wrongOf_156  ?_
                      refine g_istore_n (L' := [(0, .ref (w.1 0)), (1, .int (nI i)), (2, .int (nI wt)), (3, .int (s ||| (bt1 j))), (4, .int (nI j)), (5, .int (nI fr)), (6, .int (nI 1))]) h dX12_wrongOf_157 rfl (by decide) rfl ?_
                      refine g_iincN (b := 1) (L' := [(0, .ref (w.1 0)), (1, .int (nI i)), (2, .int (nI wt)), (3, .int (s ||| (bt1 j))), (4, .int (nI (j + 1))), (5, .int (nI fr)), (6, .int (nI 1))]) h dX12_wrongOf_158 4 rfl rfl (by decide) (by decide) rfl ?_
                      refine g_goto h dX12_wrongOf_161 ?_
                      exact g_sub [0, 1, 2, 3, 4] rfl (ih10 (s ||| (bt1 j)) (j + 1) (by simp only [mkS]; rw [← hs]; first | (rw [show wrB μ i wt j = false from by rw [c23]; exact wr_self hI hi]; rfl) | (simp [wrB, ← hfr, c17, c23, c52, c80, c115, c120, c132, or_n0]; done) | (simp [wrB, ← hfr, c17, c23, c52, c80, c115, c120, c132, or_n0]; omega)) (by omega) (by omega))
              ·
                refine g_iload h dX12_wrongOf_83 5 rfl ?_
                refine g_ifN_le h dX12_wrongOf_85 (by omega) (fun c85 => ?_) (fun c85 => ?_)
                ·
                  refine g_iconst h dX12_wrongOf_104 (by decide) ?_
                  refine g_goto h dX12_wrongOf_105 ?_
                  refine g_istore (L' := [(0, .ref (w.1 0)), (1, .int (nI i)), (2, .int (nI wt)), (3, .int s), (4, .int (nI j)), (5, .int (nI fr)), (6, .int (nI 0))]) h dX12_wrongOf_140 rfl (by decide) rfl ?_
                  refine g_iload_n h dX12_wrongOf_142 3 rfl ?_
                  refine g_iload h dX12_wrongOf_143 6 rfl ?_
                  refine g_ifN_eq h dX12_wrongOf_145 (by decide) (fun c145 => ?_) (fun c145 => absurd c145 (by decide))
                  refine g_iconst h dX12_wrongOf_155 (by decide) ?_
                  refine g_ior h dX12_wrongOf_156  ?_
                  refine g_istore_n (L' := [(0, .ref (w.1 0)), (1, .int (nI i)), (2, .int (nI wt)), (3, .int (s ||| (nI 0))), (4, .int (nI j)), (5, .int (nI fr)), (6, .int (nI 0))]) h dX12_wrongOf_157 rfl (by decide) rfl ?_
                  refine g_iincN (b := 1) (L' := [(0, .ref (w.1 0)), (1, .int (nI i)), (2, .int (nI wt)), (3, .int (s ||| (nI 0))), (4, .int (nI (j + 1))), (5, .int (nI fr)), (6, .int (nI 0))]) h dX12_wrongOf_158 4 rfl rfl (by decide) (by decide) rfl ?_
                  refine g_goto h dX12_wrongOf_161 ?_
                  exact g_sub [0, 1, 2, 3, 4] rfl (ih10 (s ||| (nI 0)) (j + 1) (by simp only [mkS]; rw [← hs]; first | (rw [show wrB μ i wt j = false from by rw [c23]; exact wr_self hI hi]; rfl) | (simp [wrB, ← hfr, c17, c23, c52, c80, c85, or_n0]; done) | (simp [wrB, ← hfr, c17, c23, c52, c80, c85, or_n0]; omega)) (by omega) (by omega))
                ·
                  refine g_aload_n h dX12_wrongOf_88 0 rfl ?_
                  refine g_getr h dX12_wrongOf_89 gX12_42 sc_0 rfl ?_
                  refine g_iload h dX12_wrongOf_92 4 rfl ?_
                  refine g_iald h dX12_wrongOf_94 sc_9 (by omega) ?_
                  refine g_top (y := (nI (rs (rts μ i 6) j))) ((hcRR_σ_1 j (by omega)).1) ?_
                  refine g_iload h dX12_wrongOf_95 5 rfl ?_
                  refine g_icmpN_le h dX12_wrongOf_97 (by omega) (by omega) (fun c97 => ?_) (fun c97 => ?_)
                  ·
                    refine g_iconst h dX12_wrongOf_104 (by decide) ?_
                    refine g_goto h dX12_wrongOf_105 ?_
                    refine g_istore (L' := [(0, .ref (w.1 0)), (1, .int (nI i)), (2, .int (nI wt)), (3, .int s), (4, .int (nI j)), (5, .int (nI fr)), (6, .int (nI 0))]) h dX12_wrongOf_140 rfl (by decide) rfl ?_
                    refine g_iload_n h dX12_wrongOf_142 3 rfl ?_
                    refine g_iload h dX12_wrongOf_143 6 rfl ?_
                    refine g_ifN_eq h dX12_wrongOf_145 (by decide) (fun c145 => ?_) (fun c145 => absurd c145 (by decide))
                    refine g_iconst h dX12_wrongOf_155 (by decide) ?_
                    refine g_ior h dX12_wrongOf_156  ?_
                    refine g_istore_n (L' := [(0, .ref (w.1 0)), (1, .int (nI i)), (2, .int (nI wt)), (3, .int (s ||| (nI 0))), (4, .int (nI j)), (5, .int (nI fr)), (6, .int (nI 0))]) h dX12_wrongOf_157 rfl (by decide) rfl ?_
                    refine g_iincN (b := 1) (L' := [(0, .ref (w.1 0)), (1, .int (nI i)), (2, .int (nI wt)), (3, .int (s ||| (nI 0))), (4, .int (nI (j + 1))), (5, .int (nI fr)), (6, .int (nI 0))]) h dX12_wrongOf_158 4 rfl rfl (by decide) (by decide) rfl ?_
                    refine g_goto h dX12_wrongOf_161 ?_
                    exact g_sub [0, 1, 2, 3, 4] rfl (ih10 (s ||| (nI 0)) (j + 1) (by simp only [mkS]; rw [← hs]; first | (rw [show wrB μ i wt j = false from by rw [c23]; exact wr_self hI hi]; rfl) | (simp [wrB, ← hfr, c17, c23, c52, c80, c85, c97, or_n0]; done) | (simp [wrB, ← hfr, c17, c23, c52, c80, c85, c97, or_n0]; omega)) (by omega) (by omega))
                  ·
                    refine g_iconst h dX12_wrongOf_100 (by decide) ?_
                    refine g_goto h dX12_wrongOf_101 ?_
                    refine g_istore (L' := [(0, .ref (w.1 0)), (1, .int (nI i)), (2, .int (nI wt)), (3, .int s), (4, .int (nI j)), (5, .int (nI fr)), (6, .int (nI 1))]) h dX12_wrongOf_140 rfl (by decide) rfl ?_
                    refine g_iload_n h dX12_wrongOf_142 3 rfl ?_
                    refine g_iload h dX12_wrongOf_143 6 rfl ?_
                    refine g_ifN_eq h dX12_wrongOf_145 (by decide) (fun c145 => absurd c145 (by decide)) (fun c145 => ?_)
                    refine g_iconst h dX12_wrongOf_148 (by decide) ?_
                    refine g_iload h dX12_wrongOf_149 4 rfl ?_
                    refine g_ishl h dX12_wrongOf_151  ?_
                    refine g_top (y := bt1 j) rfl ?_
                    refine g_goto h dX12_wrongOf_152 ?_
                    refine g_ior h dX12_wrongOf_156  ?_
                    refine g_istore_n (L' := [(0, .ref (w.1 0)), (1, .int (nI i)), (2, .int (nI wt)), (3, .int (s ||| (bt1 j))), (4, .int (nI j)), (5, .int (nI fr)), (6, .int (nI 1))]) h dX12_wrongOf_157 rfl (by decide) rfl ?_
                    refine g_iincN (b := 1) (L' := [(0, .ref (w.1 0)), (1, .int (nI i)), (2, .int (nI wt)), (3, .int (s ||| (bt1 j))), (4, .int (nI (j + 1))), (5, .int (nI fr)), (6, .int (nI 1))]) h dX12_wrongOf_158 4 rfl rfl (by decide) (by decide) rfl ?_
                    refine g_goto h dX12_wrongOf_161 ?_
                    exact g_sub [0, 1, 2, 3, 4] rfl (ih10 (s ||| (bt1 j)) (j + 1) (by simp only [mkS]; rw [← hs]; first | (rw [show wrB μ i wt j = false from by rw [c23]; exact wr_self hI hi]; rfl) | (simp [wrB, ← hfr, c17, c23, c52, c80, c85, c97, or_n0]; done) | (simp [wrB, ← hfr, c17, c23, c52, c80, c85, c97, or_n0]; omega)) (by omega) (by omega))
            ·
              refine g_iload h dX12_wrongOf_55 5 rfl ?_
              refine g_ifN_le h dX12_wrongOf_57 (by omega) (fun c57 => ?_) (fun c57 => ?_)
              ·
                refine g_iconst h dX12_wrongOf_74 (by decide) ?_
                refine g_goto h dX12_wrongOf_75 ?_
                refine g_istore (L' := [(0, .ref (w.1 0)), (1, .int (nI i)), (2, .int (nI wt)), (3, .int s), (4, .int (nI j)), (5, .int (nI fr)), (6, .int (nI 0))]) h dX12_wrongOf_140 rfl (by decide) rfl ?_
                refine g_iload_n h dX12_wrongOf_142 3 rfl ?_
                refine g_iload h dX12_wrongOf_143 6 rfl ?_
                refine g_ifN_eq h dX12_wrongOf_145 (by decide) (fun c145 => ?_) (fun c145 => absurd c145 (by decide))
                refine g_iconst h dX12_wrongOf_155 (by decide) ?_
                refine g_ior h dX12_wrongOf_156  ?_
                refine g_istore_n (L' := [(0, .ref (w.1 0)), (1, .int (nI i)), (2, .int (nI wt)), (3, .int (s ||| (nI 0))), (4, .int (nI j)), (5, .int (nI fr)), (6, .int (nI 0))]) h dX12_wrongOf_157 rfl (by decide) rfl ?_
                refine g_iincN (b := 1) (L' := [(0, .ref (w.1 0)), (1, .int (nI i)), (2, .int (nI wt)), (3, .int (s ||| (nI 0))), (4, .int (nI (j + 1))), (5, .int (nI fr)), (6, .int (nI 0))]) h dX12_wrongOf_158 4 rfl rfl (by decide) (by decide) rfl ?_
                refine g_goto h dX12_wrongOf_161 ?_
                exact g_sub [0, 1, 2, 3, 4] rfl (ih10 (s ||| (nI 0)) (j + 1) (by simp only [mkS]; rw [← hs]; first | (rw [show wrB μ i wt j = false from by rw [c23]; exact wr_self hI hi]; rfl) | (simp [wrB, ← hfr, c17, c23, c52, c57, or_n0]; done) | (simp [wrB, ← hfr, c17, c23, c52, c57, or_n0]; omega)) (by omega) (by omega))
              ·
                refine g_aload_n h dX12_wrongOf_60 0 rfl ?_
                refine g_getr h dX12_wrongOf_61 gX12_42 sc_0 rfl ?_
                refine g_iload h dX12_wrongOf_64 4 rfl ?_
                refine g_iald h dX12_wrongOf_66 sc_9 (by omega) ?_
                refine g_top (y := (nI (rs (rts μ i 6) j))) ((hcRR_σ_1 j (by omega)).1) ?_
                refine g_ifN_ne h dX12_wrongOf_67 (by omega) (fun c67 => ?_) (fun c67 => ?_)
                ·
                  refine g_iconst h dX12_wrongOf_74 (by decide) ?_
                  refine g_goto h dX12_wrongOf_75 ?_
                  refine g_istore (L' := [(0, .ref (w.1 0)), (1, .int (nI i)), (2, .int (nI wt)), (3, .int s), (4, .int (nI j)), (5, .int (nI fr)), (6, .int (nI 0))]) h dX12_wrongOf_140 rfl (by decide) rfl ?_
                  refine g_iload_n h dX12_wrongOf_142 3 rfl ?_
                  refine g_iload h dX12_wrongOf_143 6 rfl ?_
                  refine g_ifN_eq h dX12_wrongOf_145 (by decide) (fun c145 => ?_) (fun c145 => absurd c145 (by decide))
                  refine g_iconst h dX12_wrongOf_155 (by decide) ?_
                  refine g_ior h dX12_wrongOf_156  ?_
                  refine g_istore_n (L' := [(0, .ref (w.1 0)), (1, .int (nI i)), (2, .int (nI wt)), (3, .int (s ||| (nI 0))), (4, .int (nI j)), (5, .int (nI fr)), (6, .int (nI 0))]) h dX12_wrongOf_157 rfl (by decide) rfl ?_
                  refine g_iincN (b := 1) (L' := [(0, .ref (w.1 0)), (1, .int (nI i)), (2, .int (nI wt)), (3, .int (s ||| (nI 0))), (4, .int (nI (j + 1))), (5, .int (nI fr)), (6, .int (nI 0))]) h dX12_wrongOf_158 4 rfl rfl (by decide) (by decide) rfl ?_
                  refine g_goto h dX12_wrongOf_161 ?_
                  exact g_sub [0, 1, 2, 3, 4] rfl (ih10 (s ||| (nI 0)) (j + 1) (by simp only [mkS]; rw [← hs]; first | (rw [show wrB μ i wt j = false from by rw [c23]; exact wr_self hI hi]; rfl) | (simp [wrB, ← hfr, c17, c23, c52, c57, c67, or_n0]; done) | (simp [wrB, ← hfr, c17, c23, c52, c57, c67, or_n0]; omega)) (by omega) (by omega))
                ·
                  refine g_iconst h dX12_wrongOf_70 (by decide) ?_
                  refine g_goto h dX12_wrongOf_71 ?_
                  refine g_istore (L' := [(0, .ref (w.1 0)), (1, .int (nI i)), (2, .int (nI wt)), (3, .int s), (4, .int (nI j)), (5, .int (nI fr)), (6, .int (nI 1))]) h dX12_wrongOf_140 rfl (by decide) rfl ?_
                  refine g_iload_n h dX12_wrongOf_142 3 rfl ?_
                  refine g_iload h dX12_wrongOf_143 6 rfl ?_
                  refine g_ifN_eq h dX12_wrongOf_145 (by decide) (fun c145 => absurd c145 (by decide)) (fun c145 => ?_)
                  refine g_iconst h dX12_wrongOf_148 (by decide) ?_
                  refine g_iload h dX12_wrongOf_149 4 rfl ?_
                  refine g_ishl h dX12_wrongOf_151  ?_
                  refine g_top (y := bt1 j) rfl ?_
                  refine g_goto h dX12_wrongOf_152 ?_
                  refine g_ior h dX12_wrongOf_156  ?_
                  refine g_istore_n (L' := [(0, .ref (w.1 0)), (1, .int (nI i)), (2, .int (nI wt)), (3, .int (s ||| (bt1 j))), (4, .int (nI j)), (5, .int (nI fr)), (6, .int (nI 1))]) h dX12_wrongOf_157 rfl (by decide) rfl ?_
                  refine g_iincN (b := 1) (L' := [(0, .ref (w.1 0)), (1, .int (nI i)), (2, .int (nI wt)), (3, .int (s ||| (bt1 j))), (4, .int (nI (j + 1))), (5, .int (nI fr)), (6, .int (nI 1))]) h dX12_wrongOf_158 4 rfl rfl (by decide) (by decide) rfl ?_
                  refine g_goto h dX12_wrongOf_161 ?_
                  exact g_sub [0, 1, 2, 3, 4] rfl (ih10 (s ||| (bt1 j)) (j + 1) (by simp only [mkS]; rw [← hs]; first | (rw [show wrB μ i wt j = false from by rw [c23]; exact wr_self hI hi]; rfl) | (simp [wrB, ← hfr, c17, c23, c52, c57, c67, or_n0]; done) | (simp [wrB, ← hfr, c17, c23, c52, c57, c67, or_n0]; omega)) (by omega) (by omega))
          refine g_aload_n h dX12_wrongOf_29 0 rfl ?_
          refine g_iload h dX12_wrongOf_30 4 rfl ?_
          refine g_cvpi (rest := []) h (r_isOn hW j μ (by assumption) (by omega)) lX12_isOn mX12_114 (Nat.lt_of_lt_of_le (by decide) (Nat.le_refl _)) (by decide) sc_0 rfl rfl rfl rfl dX12_wrongOf_32 ?_
          refine g_ifB_eq h dX12_wrongOf_35 (fun c35 => ?_) (fun c35 => ?_)
          ·
            refine g_iconst h dX12_wrongOf_48 (by decide) ?_
            exact J49 0 (by first | rfl | exact (far_off hi c35 c23).symm | exact (far_off hi (by assumption) (by omega)).symm | fail | fail)
          ·
            refine g_aload_n h dX12_wrongOf_38 0 rfl ?_
            refine g_iload_n h dX12_wrongOf_39 1 rfl ?_
            refine g_iload h dX12_wrongOf_40 4 rfl ?_
            refine g_cvpi (rest := []) h (r_farOf hW i j μ (by first | exact hvσ_1 | assumption | fail) (by assumption) (by omega) (by omega)) lX12_farOf mX12_327 (Nat.lt_of_lt_of_le (by decide) (Nat.le_refl _)) (by decide) sc_0 rfl rfl rfl rfl dX12_wrongOf_42 ?_
            refine g_goto h dX12_wrongOf_45 ?_
            exact J49 (far μ i j) (by first | rfl | exact (far_off hi c35 c23).symm | exact (far_off hi (by assumption) (by omega)).symm | fail | fail)
        ·
          refine g_goto h dX12_wrongOf_26 ?_
          refine g_iincN (b := 1) (L' := [(0, .ref (w.1 0)), (1, .int (nI i)), (2, .int (nI wt)), (3, .int s), (4, .int (nI (j + 1)))]) h dX12_wrongOf_158 4 rfl rfl (by decide) (by decide) rfl ?_
          refine g_goto h dX12_wrongOf_161 ?_
          exact ih10 s (j + 1) (by simp only [mkS]; rw [← hs]; first | (rw [show wrB μ i wt j = false from by rw [c23]; exact wr_self hI hi]; rfl) | (simp [wrB, ← hfr, c17, c23, or_n0]; done) | (simp [wrB, ← hfr, c17, c23, or_n0]; omega)) (by omega) (by omega)
  exact lp10 (_) (nI 0) 0 (by rfl) (by omega) (Nat.lt_succ_self _)
