/-! how far it is in truth, in words -/
def prB (μ : Nat → Int32) (a b : Nat) : Bool := tb (μ 1) a && tb (μ 1) b && tb (μ (24 + a)) b && tb (μ (24 + b)) a
def prS (μ : Nat → Int32) (a : Nat) : Int32 := mkS (prB μ a) 8
def prO (μ : Nat → Int32) (s : Int32) : Int32 := orS (fun a => if tb s a = true then prS μ a else nI 0) 8
def rch (μ : Nat → Int32) (st : Int32) (f : Nat) : Nat → Int32
  | 0 => bt1 f
  | n + 1 => rch μ st f n ||| (prO μ (rch μ st f n) &&& st)
def o0 (o : Option Nat) : Nat := match o with
  | none => 0
  | some n => n
def fB (μ : Nat → Int32) (st : Int32) (f t : Nat) : Nat := o0 (fs (fun n => tb (rch μ st f n) t) 8)
def far (μ : Nat → Int32) (f t : Nat) : Nat := fB μ (μ 1) f t
def nY (μ : Nat → Int32) (here st : Int32) (a : Nat) (nx : Int32) : Nat → Int32
  | 0 => nx
  | b + 1 => if (tb here a && tb st b && prB μ a b) = true then nY μ here st a nx b ||| bt1 b else nY μ here st a nx b
def nX (μ : Nat → Int32) (here st : Int32) : Nat → Int32
  | 0 => here
  | a + 1 => nY μ here st a (nX μ here st a) (nN μ)
theorem tb_nY {μ : Nat → Int32} {here st nx : Int32} {a : Nat} : ∀ {n : Nat}, n ≤ 32 → ∀ q, tb (nY μ here st a nx n) q = (tb nx q || (decide (q < n) && (tb here a && tb st q && prB μ a q)))
  | 0, _, q => by simp [nY]
  | n + 1, hn, q => by
    have ih := tb_nY (μ := μ) (here := here) (st := st) (nx := nx) (a := a) (n := n) (by omega) q
    simp only [nY]
    by_cases c : (tb here a && tb st n && prB μ a n) = true
    · rw [if_pos c, tb_or, ih, tb_bt1 (by omega)]
      by_cases e : q = n
      · subst e
        rw [c]
        simp
      · have : decide (q < n + 1) = decide (q < n) := by
          rw [decide_eq_decide]
          omega
        simp [e, this]
    · rw [if_neg c, ih]
      by_cases e : q = n
      · subst e
        have : (tb here a && tb st q && prB μ a q) = false := by simpa using c
        rw [this]
        simp
      · have : decide (q < n + 1) = decide (q < n) := by
          rw [decide_eq_decide]
          omega
        rw [this]
theorem tb_nX {μ : Nat → Int32} {here st : Int32} (h8 : nN μ ≤ 8) : ∀ (n q : Nat), tb (nX μ here st n) q = true ↔ tb here q = true ∨ ∃ a, a < n ∧ q < nN μ ∧ tb here a = true ∧ tb st q = true ∧ prB μ a q = true
  | 0, q => by
    constructor
    · exact Or.inl
    · rintro (h | ⟨a, h, _⟩)
      · exact h
      · exact absurd h (Nat.not_lt_zero _)
  | n + 1, q => by
    show tb (nY μ here st n (nX μ here st n) (nN μ)) q = true ↔ _
    rw [tb_nY (by omega), Bool.or_eq_true, tb_nX h8 n q]
    simp only [Bool.and_eq_true, decide_eq_true_eq]
    constructor
    · rintro ((h | ⟨a, h1, h2⟩) | ⟨h1, ⟨h2, h3⟩, h4⟩)
      · exact Or.inl h
      · exact Or.inr ⟨a, by omega, h2⟩
      · exact Or.inr ⟨n, by omega, h1, h2, h3, h4⟩
    · rintro (h | ⟨a, h1, h2, h3, h4, h5⟩)
      · exact Or.inl (Or.inl h)
      · by_cases e : a = n
        · subst e
          exact Or.inr ⟨h2, ⟨h3, h4⟩, h5⟩
        · exact Or.inl (Or.inr ⟨a, by omega, h2, h3, h4, h5⟩)
theorem prB_lt {μ : Nat → Int32} {a b : Nat} (hI : MI μ) (h : prB μ a b = true) : a < nN μ ∧ b < nN μ := by
  unfold prB at h
  simp only [Bool.and_eq_true] at h
  constructor
  · by_cases c : a < nN μ
    · exact c
    · have := ms_on hI a (by omega)
      rw [h.1.1.1] at this
      cases this
  · by_cases c : b < nN μ
    · exact c
    · have := ms_on hI b (by omega)
      rw [h.1.1.2] at this
      cases this
theorem prB_ne {μ : Nat → Int32} {a b : Nat} (hI : MI μ) (h : prB μ a b = true) : a ≠ b := fun e => by
  have h8 := mi_8 hI
  have hl := prB_lt hI h
  subst e
  unfold prB at h
  simp only [Bool.and_eq_true] at h
  have := (mi_self hI (i := a) (by omega)).1
  rw [h.1.2] at this
  cases this
theorem tb_prS {μ : Nat → Int32} {a q : Nat} (hI : MI μ) : tb (prS μ a) q = prB μ a q := by
  have h8 := mi_8 hI
  by_cases c : q < 32
  · unfold prS
    rw [tb_mkS _ _ (by omega)]
    by_cases c2 : q < 8
    · simp [c2]
    · cases e : prB μ a q with
      | false => simp
      | true => have := (prB_lt hI e).2; omega
  · rw [tb_big (by omega)]
    cases e : prB μ a q with
    | false => rfl
    | true => have := (prB_lt hI e).2; omega
theorem tb_prO {μ : Nat → Int32} {s : Int32} {q : Nat} (hI : MI μ) : tb (prO μ s) q = true ↔ ∃ a, tb s a = true ∧ prB μ a q = true := by
  have h8 := mi_8 hI
  unfold prO
  rw [tb_orS]
  constructor
  · rintro ⟨a, h1, h2⟩
    by_cases c : tb s a = true
    · rw [if_pos c, tb_prS hI] at h2
      exact ⟨a, c, h2⟩
    · rw [if_neg c, tb_n0] at h2
      cases h2
  · rintro ⟨a, h1, h2⟩
    exact ⟨a, by have := (prB_lt hI h2).1; omega, by rw [if_pos h1, tb_prS hI]; exact h2⟩
theorem tb_iff {x y : Int32} (h : ∀ q, tb x q = true ↔ tb y q = true) : x = y := s_ext fun q _ => by
  have := h q
  cases a : tb x q <;> cases b : tb y q <;> simp [a, b] at this ⊢
theorem nX_end {μ : Nat → Int32} {here st : Int32} (hI : MI μ) : nX μ here st (nN μ) = here ||| (prO μ here &&& st) := tb_iff fun q => by
  rw [tb_nX (mi_8 hI), tb_or, Bool.or_eq_true, tb_and, Bool.and_eq_true, tb_prO hI]
  constructor
  · rintro (h | ⟨a, h1, h2, h3, h4, h5⟩)
    · exact Or.inl h
    · exact Or.inr ⟨⟨a, h3, h5⟩, h4⟩
  · rintro (h | ⟨⟨a, h1, h2⟩, h3⟩)
    · exact Or.inl h
    · have := prB_lt hI h2
      exact Or.inr ⟨a, this.1, this.2, h1, h3, h2⟩
theorem fs_le7 {p : Nat → Bool} : o0 (fs p 8) < 8 := by
  cases e : fs p 8 with
  | none => exact (show 0 < 8 by decide)
  | some v => exact (fs_lt e).1
theorem far_lt {μ : Nat → Int32} {f t : Nat} : far μ f t < 8 := fs_le7
theorem fB_lt {μ : Nat → Int32} {st : Int32} {f t : Nat} : fB μ st f t < 8 := fs_le7
theorem fs_here {p : Nat → Bool} {n : Nat} (h : ∀ x, x < n → p x = false) (hp : p n = true) : ∀ m, n < m → fs p m = some n
  | 0, hm => absurd hm (Nat.not_lt_zero _)
  | m + 1, hm => by
    simp only [fs]
    by_cases e : n = m
    · subst e
      have : fs p n = none := by
        cases q : fs p n with
        | none => rfl
        | some v =>
          have := fs_lt q
          rw [h v this.1] at this
          cases this.2
      rw [this]
      dsimp only
      rw [if_pos hp]
    · rw [fs_here h hp m (by omega)]
theorem fs_none {p : Nat → Bool} : ∀ {n : Nat}, (∀ x, x < n → p x = false) → fs p n = none
  | 0, _ => rfl
  | n + 1, h => by
    simp only [fs]
    rw [fs_none (n := n) (fun x hx => h x (by omega))]
    dsimp only
    rw [if_neg (by rw [h n (by omega)]; decide)]

set_option maxRecDepth 100000 in
set_option maxHeartbeats 4000000 in
theorem r_isPair {l : Launch} {w : Wd} (hW : Wi w) {σ : Mem} (a b : Nat) (μ : Nat → Int32) (hv : vw 0 σ = μ) (hI : MI μ) (ha : a < 8) (hb : b < 8) : MC l w qX12_isPair 2 [.ref (w.1 0), .int (nI a), .int (nI b)] σ (some (.int (b2i (prB μ a b)))) (fun σ' => σ' = σ) := by
  refine MC.of hW (by decide +kernel) (Nat.le_of_ble_eq_true rfl) (fun X h hQ hnm => ?_)
  have h : Fx X w cX12_isPair 3 RX12 2 := h
  have hQ : Qx X w (some .boolean) (some (.int (b2i (prB μ a b)))) (fun σ' => σ' = σ) := hQ
  show G X w 3 0 [(0, .ref (w.1 0)), (1, .int (nI a)), (2, .int (nI b))] [] σ
  refine g_iload_n h dX12_isPair_0 1 rfl ?_
  refine g_iload_n h dX12_isPair_1 2 rfl ?_
  refine g_icmpN_eq h dX12_isPair_2 (by omega) (by omega) (fun c2 => ?_) (fun c2 => ?_)
  ·
    refine g_iconst h dX12_isPair_55 (by decide) ?_
    exact g_zret h hQ dX12_isPair_56 (show narrow .boolean (.int (b2i false)) = .int (b2i false) from narrow_b2i _) (congrArg (fun z => some (Value.int (b2i z))) (show (prB μ a b) = false by first | (simp [prB, c2]; done) | (subst c2; cases e9 : prB μ a a; (first | rfl | done); exact absurd rfl (prB_ne hI e9)) | fail)) rfl
  ·
    refine g_aload_n h dX12_isPair_5 0 rfl ?_
    refine g_iload_n h dX12_isPair_6 1 rfl ?_
    refine g_cvpi (rest := []) h (r_isOn hW a μ (by assumption) (by omega)) lX12_isOn mX12_114 (Nat.lt_of_lt_of_le (by decide) (Nat.le_refl _)) (by decide) sc_0 rfl rfl rfl rfl dX12_isPair_7 ?_
    refine g_ifB_eq h dX12_isPair_10 (fun c10 => ?_) (fun c10 => ?_)
    ·
      refine g_iconst h dX12_isPair_55 (by decide) ?_
      exact g_zret h hQ dX12_isPair_56 (show narrow .boolean (.int (b2i false)) = .int (b2i false) from narrow_b2i _) (congrArg (fun z => some (Value.int (b2i z))) (show (prB μ a b) = false by first | (simp [prB, c2, c10]; done) | (subst c2; cases e9 : prB μ a a; (first | rfl | done); exact absurd rfl (prB_ne hI e9)) | fail)) rfl
    ·
      refine g_aload_n h dX12_isPair_13 0 rfl ?_
      refine g_iload_n h dX12_isPair_14 2 rfl ?_
      refine g_cvpi (rest := []) h (r_isOn hW b μ (by assumption) (by omega)) lX12_isOn mX12_114 (Nat.lt_of_lt_of_le (by decide) (Nat.le_refl _)) (by decide) sc_0 rfl rfl rfl rfl dX12_isPair_15 ?_
      refine g_ifB_eq h dX12_isPair_18 (fun c18 => ?_) (fun c18 => ?_)
      ·
        refine g_iconst h dX12_isPair_55 (by decide) ?_
        exact g_zret h hQ dX12_isPair_56 (show narrow .boolean (.int (b2i false)) = .int (b2i false) from narrow_b2i _) (congrArg (fun z => some (Value.int (b2i z))) (show (prB μ a b) = false by first | (simp [prB, c2, c10, c18]; done) | (subst c2; cases e9 : prB μ a a; (first | rfl | done); exact absurd rfl (prB_ne hI e9)) | fail)) rfl
      ·
        refine g_aload_n h dX12_isPair_21 0 rfl ?_
        refine g_bipush h dX12_isPair_22 (by decide) ?_
        refine g_iload_n h dX12_isPair_24 1 rfl ?_
        refine g_iaddN h dX12_isPair_25  ?_
        refine g_cvpi (rest := []) h (r_of hW (24 + a) μ (by assumption) (by omega)) lX12_of mX12_61 (Nat.lt_of_lt_of_le (by decide) (Nat.le_refl _)) (by decide) sc_0 rfl rfl rfl rfl dX12_isPair_26 ?_
        refine g_iload_n h dX12_isPair_29 2 rfl ?_
        refine g_cspi (rest := []) h (r_has hW (μ (24 + a)) b (by omega)) lX12_has mX12_65 (Nat.lt_of_lt_of_le (by decide) (Nat.le_refl _)) (by decide) rfl rfl rfl dX12_isPair_30 ?_
        refine g_ifB_eq h dX12_isPair_33 (fun c33 => ?_) (fun c33 => ?_)
        ·
          refine g_iconst h dX12_isPair_55 (by decide) ?_
          exact g_zret h hQ dX12_isPair_56 (show narrow .boolean (.int (b2i false)) = .int (b2i false) from narrow_b2i _) (congrArg (fun z => some (Value.int (b2i z))) (show (prB μ a b) = false by first | (simp [prB, c2, c10, c18, c33]; done) | (subst c2; cases e9 : prB μ a a; (first | rfl | done); exact absurd rfl (prB_ne hI e9)) | fail)) rfl
        ·
          refine g_aload_n h dX12_isPair_36 0 rfl ?_
          refine g_bipush h dX12_isPair_37 (by decide) ?_
          refine g_iload_n h dX12_isPair_39 2 rfl ?_
          refine g_iaddN h dX12_isPair_40  ?_
          refine g_cvpi (rest := []) h (r_of hW (24 + b) μ (by assumption) (by omega)) lX12_of mX12_61 (Nat.lt_of_lt_of_le (by decide) (Nat.le_refl _)) (by decide) sc_0 rfl rfl rfl rfl dX12_isPair_41 ?_
          refine g_iload_n h dX12_isPair_44 1 rfl ?_
          refine g_cspi (rest := []) h (r_has hW (μ (24 + b)) a (by omega)) lX12_has mX12_65 (Nat.lt_of_lt_of_le (by decide) (Nat.le_refl _)) (by decide) rfl rfl rfl dX12_isPair_45 ?_
          refine g_ifB_eq h dX12_isPair_48 (fun c48 => ?_) (fun c48 => ?_)
          ·
            refine g_iconst h dX12_isPair_55 (by decide) ?_
            exact g_zret h hQ dX12_isPair_56 (show narrow .boolean (.int (b2i false)) = .int (b2i false) from narrow_b2i _) (congrArg (fun z => some (Value.int (b2i z))) (show (prB μ a b) = false by first | (simp [prB, c2, c10, c18, c33, c48]; done) | (subst c2; cases e9 : prB μ a a; (first | rfl | done); exact absurd rfl (prB_ne hI e9)) | fail)) rfl
          ·
            refine g_iconst h dX12_isPair_51 (by decide) ?_
            refine g_goto h dX12_isPair_52 ?_
            exact g_zret h hQ dX12_isPair_56 (show narrow .boolean (.int (b2i true)) = .int (b2i true) from narrow_b2i _) (congrArg (fun z => some (Value.int (b2i z))) (show (prB μ a b) = true by first | (simp [prB, c2, c10, c18, c33, c48]; done) | (subst c2; cases e9 : prB μ a a; (first | rfl | done); exact absurd rfl (prB_ne hI e9)) | fail)) rfl

set_option maxRecDepth 100000 in
set_option maxHeartbeats 4000000 in
theorem r_farBy {l : Launch} {w : Wd} (hW : Wi w) {σ : Mem} (f t : Nat) (z : Int32) (μ : Nat → Int32) (hv : vw 0 σ = μ) (hI : MI μ) (hf : f < 8) (ht : t < 8) : MC l w qX12_farBy 3 [.ref (w.1 0), .int (nI f), .int (nI t), .int z] σ (some (.int (nI (fB μ z f t)))) (fun σ' => σ' = σ) := by
  refine MC.of hW (by decide +kernel) (Nat.le_of_ble_eq_true rfl) (fun X h hQ hnm => ?_)
  have h : Fx X w cX12_farBy 9 RX12 3 := h
  have hQ : Qx X w (some .int) (some (.int (nI (fB μ z f t)))) (fun σ' => σ' = σ) := hQ
  have hN8 := mi_8 hI
  show G X w 9 0 [(0, .ref (w.1 0)), (1, .int (nI f)), (2, .int (nI t)), (3, .int z)] [] σ
  refine g_iconst h dX12_farBy_0 (by decide) ?_
  refine g_iload_n h dX12_farBy_1 1 rfl ?_
  refine g_ishl h dX12_farBy_2  ?_
  refine g_top (y := bt1 f) rfl ?_
  refine g_istore (L' := [(0, .ref (w.1 0)), (1, .int (nI f)), (2, .int (nI t)), (3, .int z), (4, .int (bt1 f))]) h dX12_farBy_3 rfl (by decide) rfl ?_
  refine g_iconst h dX12_farBy_5 (by decide) ?_
  refine g_istore (L' := [(0, .ref (w.1 0)), (1, .int (nI f)), (2, .int (nI t)), (3, .int z), (4, .int (bt1 f)), (5, .int (nI 0))]) h dX12_farBy_6 rfl (by decide) rfl ?_
  have lp8 : ∀ (k9 : Nat) (s : Int32) (n : Nat), (s = rch μ z f n) → (n ≤ 8) → (∀ x, x < n → tb (rch μ z f x) t = false) → 8 - n < k9 → G X w 9 8 [(0, .ref (w.1 0)), (1, .int (nI f)), (2, .int (nI t)), (3, .int z), (4, .int s), (5, .int (nI n))] [] σ := by
    intro k9
    induction k9 with
    | zero => intro s n hs hn hno hm9; exact absurd hm9 (Nat.not_lt_zero _)
    | succ k9 ih8 =>
      intro s n hs hn hno hm8
      refine g_iload h dX12_farBy_8 5 rfl ?_
      refine g_bipush h dX12_farBy_10 (by decide) ?_
      refine g_icmpN_ge h dX12_farBy_12 (by omega) (by omega) (fun c12 => ?_) (fun c12 => ?_)
      ·
        refine g_iconst h dX12_farBy_118 (by decide) ?_
        exact g_iret h hQ dX12_farBy_119 (congrArg (fun z => some (Value.int z)) (show (nI (fB μ z f t)) = (nI 0) by first | (unfold fB; rw [fs_here hno (by rw [← hs]; exact c21) 8 (by omega)]; rfl) | (unfold fB; rw [fs_none (fun x hx => hno x (by omega))]; rfl) | fail)) rfl
      ·
        refine g_iload h dX12_farBy_15 4 rfl ?_
        refine g_iload_n h dX12_farBy_17 2 rfl ?_
        refine g_cspi (rest := []) h (r_has hW s t (by omega)) lX12_has mX12_65 (Nat.lt_of_lt_of_le (by decide) (Nat.le_refl _)) (by decide) rfl rfl rfl dX12_farBy_18 ?_
        refine g_ifB_eq h dX12_farBy_21 (fun c21 => ?_) (fun c21 => ?_)
        ·
          refine g_iload h dX12_farBy_27 4 rfl ?_
          refine g_istore (L' := [(0, .ref (w.1 0)), (1, .int (nI f)), (2, .int (nI t)), (3, .int z), (4, .int s), (5, .int (nI n)), (6, .int s)]) h dX12_farBy_29 rfl (by decide) rfl ?_
          refine g_iconst h dX12_farBy_31 (by decide) ?_
          refine g_istore (L' := [(0, .ref (w.1 0)), (1, .int (nI f)), (2, .int (nI t)), (3, .int z), (4, .int s), (5, .int (nI n)), (6, .int s), (7, .int (nI 0))]) h dX12_farBy_32 rfl (by decide) rfl ?_
          have lp34 : ∀ (k9 : Nat) (s2 : Int32) (a : Nat), (s2 = nX μ s z a) → (a ≤ nN μ) → nN μ - a < k9 → G X w 9 34 [(0, .ref (w.1 0)), (1, .int (nI f)), (2, .int (nI t)), (3, .int z), (4, .int s), (5, .int (nI n)), (6, .int s2), (7, .int (nI a))] [] σ := by
            intro k9
            induction k9 with
            | zero => intro s2 a hs2 ha hm9; exact absurd hm9 (Nat.not_lt_zero _)
            | succ k9 ih34 =>
              intro s2 a hs2 ha hm34
              refine g_iload h dX12_farBy_34 7 rfl ?_
              refine g_aload_n h dX12_farBy_36 0 rfl ?_
              refine g_iconst h dX12_farBy_37 (by decide) ?_
              refine g_cvpi (rest := [.int (nI a)]) h (r_of hW 0 μ (by assumption) (by omega)) lX12_of mX12_61 (Nat.lt_of_lt_of_le (by decide) (Nat.le_refl _)) (by decide) sc_0 rfl rfl rfl rfl dX12_farBy_38 ?_
              refine g_top (y := nI (nN μ)) (mi_0 (by assumption)) ?_
              refine g_icmpN_ge h dX12_farBy_41 (by omega) (by omega) (fun c41 => ?_) (fun c41 => ?_)
              ·
                refine g_iload h dX12_farBy_108 6 rfl ?_
                refine g_istore (L' := [(0, .ref (w.1 0)), (1, .int (nI f)), (2, .int (nI t)), (3, .int z), (4, .int s2), (5, .int (nI n)), (6, .int s2), (7, .int (nI a))]) h dX12_farBy_110 rfl (by decide) rfl ?_
                refine g_iincN (b := 1) (L' := [(0, .ref (w.1 0)), (1, .int (nI f)), (2, .int (nI t)), (3, .int z), (4, .int s2), (5, .int (nI (n + 1))), (6, .int s2), (7, .int (nI a))]) h dX12_farBy_112 5 rfl rfl (by decide) (by decide) rfl ?_
                refine g_goto h dX12_farBy_115 ?_
                exact g_sub [0, 1, 2, 3, 4, 5] rfl (ih8 s2 (n + 1) (by rw [hs2, show a = nN μ from by omega, nX_end hI, hs]; rfl) (by omega) (by intro x hx; exact if e9 : x = n then (by rw [e9, ← hs]; exact c21) else hno x (by omega)) (by omega))
              ·
                refine g_iconst h dX12_farBy_44 (by decide) ?_
                refine g_istore (L' := [(0, .ref (w.1 0)), (1, .int (nI f)), (2, .int (nI t)), (3, .int z), (4, .int s), (5, .int (nI n)), (6, .int s2), (7, .int (nI a)), (8, .int (nI 0))]) h dX12_farBy_45 rfl (by decide) rfl ?_
                have lp47 : ∀ (k9 : Nat) (s3 : Int32) (b : Nat), (s3 = nY μ s z a s2 b) → (b ≤ nN μ) → nN μ - b < k9 → G X w 9 47 [(0, .ref (w.1 0)), (1, .int (nI f)), (2, .int (nI t)), (3, .int z), (4, .int s), (5, .int (nI n)), (6, .int s3), (7, .int (nI a)), (8, .int (nI b))] [] σ := by
                  intro k9
                  induction k9 with
                  | zero => intro s3 b hs3 hb hm9; exact absurd hm9 (Nat.not_lt_zero _)
                  | succ k9 ih47 =>
                    intro s3 b hs3 hb hm47
                    refine g_iload h dX12_farBy_47 8 rfl ?_
                    refine g_aload_n h dX12_farBy_49 0 rfl ?_
                    refine g_iconst h dX12_farBy_50 (by decide) ?_
                    refine g_cvpi (rest := [.int (nI b)]) h (r_of hW 0 μ (by assumption) (by omega)) lX12_of mX12_61 (Nat.lt_of_lt_of_le (by decide) (Nat.le_refl _)) (by decide) sc_0 rfl rfl rfl rfl dX12_farBy_51 ?_
                    refine g_top (y := nI (nN μ)) (mi_0 (by assumption)) ?_
                    refine g_icmpN_ge h dX12_farBy_54 (by omega) (by omega) (fun c54 => ?_) (fun c54 => ?_)
                    ·
                      refine g_iincN (b := 1) (L' := [(0, .ref (w.1 0)), (1, .int (nI f)), (2, .int (nI t)), (3, .int z), (4, .int s), (5, .int (nI n)), (6, .int s3), (7, .int (nI (a + 1))), (8, .int (nI b))]) h dX12_farBy_102 7 rfl rfl (by decide) (by decide) rfl ?_
                      refine g_goto h dX12_farBy_105 ?_
                      exact g_sub [0, 1, 2, 3, 4, 5, 6, 7] rfl (ih34 s3 (a + 1) (by simp only [nX]; rw [← hs2, hs3, show b = nN μ from by omega]) (by omega) (by omega))
                    ·
                      refine g_iload h dX12_farBy_57 4 rfl ?_
                      refine g_iload h dX12_farBy_59 7 rfl ?_
                      refine g_cspi (rest := []) h (r_has hW s a (by omega)) lX12_has mX12_65 (Nat.lt_of_lt_of_le (by decide) (Nat.le_refl _)) (by decide) rfl rfl rfl dX12_farBy_61 ?_
                      refine g_ifB_eq h dX12_farBy_64 (fun c64 => ?_) (fun c64 => ?_)
                      ·
                        refine g_iincN (b := 1) (L' := [(0, .ref (w.1 0)), (1, .int (nI f)), (2, .int (nI t)), (3, .int z), (4, .int s), (5, .int (nI n)), (6, .int s3), (7, .int (nI a)), (8, .int (nI (b + 1)))]) h dX12_farBy_96 8 rfl rfl (by decide) (by decide) rfl ?_
                        refine g_goto h dX12_farBy_99 ?_
                        exact ih47 s3 (b + 1) (by simp only [nY]; rw [← hs3]; simp [c12, c21, c41, c54, c64]) (by omega) (by omega)
                      ·
                        refine g_iload_n h dX12_farBy_67 3 rfl ?_
                        refine g_iload h dX12_farBy_68 8 rfl ?_
                        refine g_cspi (rest := []) h (r_has hW z b (by omega)) lX12_has mX12_65 (Nat.lt_of_lt_of_le (by decide) (Nat.le_refl _)) (by decide) rfl rfl rfl dX12_farBy_70 ?_
                        refine g_ifB_eq h dX12_farBy_73 (fun c73 => ?_) (fun c73 => ?_)
                        ·
                          refine g_iincN (b := 1) (L' := [(0, .ref (w.1 0)), (1, .int (nI f)), (2, .int (nI t)), (3, .int z), (4, .int s), (5, .int (nI n)), (6, .int s3), (7, .int (nI a)), (8, .int (nI (b + 1)))]) h dX12_farBy_96 8 rfl rfl (by decide) (by decide) rfl ?_
                          refine g_goto h dX12_farBy_99 ?_
                          exact ih47 s3 (b + 1) (by simp only [nY]; rw [← hs3]; simp [c12, c21, c41, c54, c64, c73]) (by omega) (by omega)
                        ·
                          refine g_aload_n h dX12_farBy_76 0 rfl ?_
                          refine g_iload h dX12_farBy_77 7 rfl ?_
                          refine g_iload h dX12_farBy_79 8 rfl ?_
                          refine g_cvpi (rest := []) h (r_isPair hW a b μ (by first | exact hv | assumption | fail) (by assumption) (by omega) (by omega)) lX12_isPair mX12_321 (Nat.lt_of_lt_of_le (by decide) (Nat.le_refl _)) (by decide) sc_0 rfl rfl rfl rfl dX12_farBy_81 ?_
                          refine g_ifB_eq h dX12_farBy_84 (fun c84 => ?_) (fun c84 => ?_)
                          ·
                            refine g_iincN (b := 1) (L' := [(0, .ref (w.1 0)), (1, .int (nI f)), (2, .int (nI t)), (3, .int z), (4, .int s), (5, .int (nI n)), (6, .int s3), (7, .int (nI a)), (8, .int (nI (b + 1)))]) h dX12_farBy_96 8 rfl rfl (by decide) (by decide) rfl ?_
                            refine g_goto h dX12_farBy_99 ?_
                            exact ih47 s3 (b + 1) (by simp only [nY]; rw [← hs3]; simp [c12, c21, c41, c54, c64, c73, c84]) (by omega) (by omega)
                          ·
                            refine g_iload h dX12_farBy_87 6 rfl ?_
                            refine g_iconst h dX12_farBy_89 (by decide) ?_
                            refine g_iload h dX12_farBy_90 8 rfl ?_
                            refine g_ishl h dX12_farBy_92  ?_
                            refine g_top (y := bt1 b) rfl ?_
                            refine g_ior h dX12_farBy_93  ?_
                            refine g_top (y := (s3 ||| bt1 b)) rfl ?_
                            refine g_istore (L' := [(0, .ref (w.1 0)), (1, .int (nI f)), (2, .int (nI t)), (3, .int z), (4, .int s), (5, .int (nI n)), (6, .int (s3 ||| bt1 b)), (7, .int (nI a)), (8, .int (nI b))]) h dX12_farBy_94 rfl (by decide) rfl ?_
                            refine g_iincN (b := 1) (L' := [(0, .ref (w.1 0)), (1, .int (nI f)), (2, .int (nI t)), (3, .int z), (4, .int s), (5, .int (nI n)), (6, .int (s3 ||| bt1 b)), (7, .int (nI a)), (8, .int (nI (b + 1)))]) h dX12_farBy_96 8 rfl rfl (by decide) (by decide) rfl ?_
                            refine g_goto h dX12_farBy_99 ?_
                            exact ih47 (s3 ||| bt1 b) (b + 1) (by simp only [nY]; rw [← hs3]; simp [c12, c21, c41, c54, c64, c73, c84]) (by omega) (by omega)
                exact lp47 (_) s2 0 (by rfl) (by omega) (Nat.lt_succ_self _)
          exact lp34 (_) s 0 (by rfl) (by omega) (Nat.lt_succ_self _)
        ·
          refine g_iload h dX12_farBy_24 5 rfl ?_
          exact g_iret h hQ dX12_farBy_26 (congrArg (fun z => some (Value.int z)) (show (nI (fB μ z f t)) = (nI n) by first | (unfold fB; rw [fs_here hno (by rw [← hs]; exact c21) 8 (by omega)]; rfl) | (unfold fB; rw [fs_none (fun x hx => hno x (by omega))]; rfl) | fail)) rfl
  exact lp8 (_) (bt1 f) 0 (by rfl) (by omega) (by intro x hx; omega) (Nat.lt_succ_self _)

set_option maxRecDepth 100000 in
set_option maxHeartbeats 4000000 in
theorem r_farOf {l : Launch} {w : Wd} (hW : Wi w) {σ : Mem} (f t : Nat) (μ : Nat → Int32) (hv : vw 0 σ = μ) (hI : MI μ) (hf : f < 8) (ht : t < 8) : MC l w qX12_farOf 4 [.ref (w.1 0), .int (nI f), .int (nI t)] σ (some (.int (nI (far μ f t)))) (fun σ' => σ' = σ) := by
  refine MC.of hW (by decide +kernel) (Nat.le_of_ble_eq_true rfl) (fun X h hQ hnm => ?_)
  have h : Fx X w cX12_farOf 3 RX12 4 := h
  have hQ : Qx X w (some .int) (some (.int (nI (far μ f t)))) (fun σ' => σ' = σ) := hQ
  have hN8 := mi_8 hI
  show G X w 3 0 [(0, .ref (w.1 0)), (1, .int (nI f)), (2, .int (nI t))] [] σ
  refine g_aload_n h dX12_farOf_0 0 rfl ?_
  refine g_iload_n h dX12_farOf_1 1 rfl ?_
  refine g_iload_n h dX12_farOf_2 2 rfl ?_
  refine g_aload_n h dX12_farOf_3 0 rfl ?_
  refine g_iconst h dX12_farOf_4 (by decide) ?_
  refine g_cvpi (rest := [.int (nI t), .int (nI f), .ref (w.1 0)]) h (r_of hW 1 μ (by assumption) (by omega)) lX12_of mX12_61 (Nat.lt_of_lt_of_le (by decide) (Nat.le_refl _)) (by decide) sc_0 rfl rfl rfl rfl dX12_farOf_5 ?_
  refine g_cvpi (rest := []) h (r_farBy hW f t (μ 1) μ (by first | exact hv | assumption | fail) (by assumption) (by omega) (by omega)) lX12_farBy mX12_324 (Nat.lt_of_lt_of_le (by decide) (Nat.le_refl _)) (by decide) sc_0 rfl rfl rfl rfl dX12_farOf_8 ?_
  exact g_iret h hQ dX12_farOf_11 (congrArg (fun z => some (Value.int z)) (show (nI (far μ f t)) = (nI (fB μ (μ 1) f t)) by rfl)) rfl
