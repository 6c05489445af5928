/-! the choice as the law makes it -/
section PI
variable {μ : Nat → Int32} {a : Nat}
def s1F (μ : Nat → Int32) (a b : Nat) : Bool := tb (wil μ a) b && (decide (nA μ (16 + b) = 7) || !decide (μ (144 + (8 * a + b)) &&& bhd μ a &&& nots (kno μ a (wil μ a &&& nots (bt1 b))) = 0))
def s1 (μ : Nat → Int32) (a k : Nat) : Int32 := mkS (s1F μ a) k
theorem or_same {x y : Int32} : x ||| y ||| y = x ||| y := s_ext fun i _ => by
  rw [tb_or, tb_or]
  cases tb x i <;> cases tb y i <;> rfl
theorem s1_no {k : Nat} (h : tb (wil μ a) k = false) : s1 μ a k = s1 μ a (k + 1) := by
  unfold s1
  rw [mkS_f (by unfold s1F; rw [h]; rfl)]
theorem s1_n {k : Nat} (h2 : nA μ (16 + k) ≠ 7) (h3 : μ (144 + (8 * a + k)) &&& bhd μ a &&& nots (kno μ a (wil μ a &&& nots (bt1 k))) = 0) : s1 μ a k = s1 μ a (k + 1) := by
  unfold s1
  rw [mkS_f (by unfold s1F; rw [decide_eq_false h2, decide_eq_true h3]; cases tb (wil μ a) k <;> rfl)]
theorem s1_7 {k : Nat} (h1 : tb (wil μ a) k = true) (h2 : nA μ (16 + k) = 7) : s1 μ a k ||| bt1 k = s1 μ a (k + 1) := by
  unfold s1
  rw [mkS_t (by unfold s1F; rw [h1, decide_eq_true h2]; rfl)]
theorem s1_a {k : Nat} (h1 : tb (wil μ a) k = true) (h3 : ¬ (μ (144 + (8 * a + k)) &&& bhd μ a &&& nots (kno μ a (wil μ a &&& nots (bt1 k))) = 0)) : s1 μ a k ||| bt1 k = s1 μ a (k + 1) := by
  unfold s1
  rw [mkS_t (by unfold s1F; rw [h1, decide_eq_false h3]; cases decide (nA μ (16 + k) = 7) <;> rfl)]
theorem ful_bits : ∀ m, m ≤ 8 → ∀ k, tb (ful μ a m) k = (tb (alo μ a (wil μ a) (bhd μ a)) k || (decide (k < m) && (tb (wil μ a) k && decide (nA μ (16 + k) = 7))))
  | 0, _, k => by
    simp only [ful]
    rw [decide_eq_false (Nat.not_lt_zero k)]
    cases tb (alo μ a (wil μ a) (bhd μ a)) k <;> rfl
  | m + 1, hm, k => by
    have ih := ful_bits m (by omega) k
    simp only [ful]
    by_cases c : (tb (wil μ a) m && decide (nA μ (16 + m) = 7)) = true
    · rw [if_pos c, tb_or, ih, tb_bt1 (by omega)]
      by_cases e : k = m
      · subst e
        rw [c, decide_eq_true rfl, decide_eq_true (Nat.lt_succ_self k)]
        cases tb (alo μ a (wil μ a) (bhd μ a)) k <;> simp
      · have e1 : (k < m + 1) ↔ (k < m) := by omega
        rw [decide_eq_false e, decide_eq_decide.mpr e1, Bool.or_false]
    · rw [if_neg c, ih]
      by_cases e : k = m
      · subst e
        have c0 : (tb (wil μ a) k && decide (nA μ (16 + k) = 7)) = false := by
          cases q : (tb (wil μ a) k && decide (nA μ (16 + k) = 7))
          · rfl
          · exact absurd q c
        rw [c0, Bool.and_false, Bool.and_false]
      · have e1 : (k < m + 1) ↔ (k < m) := by omega
        rw [decide_eq_decide.mpr e1]
theorem s1_ful (hI : MI μ) : s1 μ a (nN μ) = pkS μ a 0 := by
  have h8 := mi_8 hI
  show s1 μ a (nN μ) = ful μ a (nN μ)
  apply s_ext
  intro k hk
  rw [ful_bits (nN μ) h8 k]
  unfold s1 alo
  rw [tb_mkS _ _ (by omega), tb_mkS _ _ (by omega)]
  unfold s1F
  cases decide (k < nN μ) <;> cases tb (wil μ a) k <;> cases decide (nA μ (16 + k) = 7) <;> cases decide (μ (144 + (8 * a + k)) &&& bhd μ a &&& nots (kno μ a (wil μ a &&& nots (bt1 k))) = 0) <;> rfl
/-! the next one -/
def elB (μ : Nat → Int32) (a : Nat) (c left : Int32) (j : Nat) : Bool := tb c j && !decide (μ (144 + (8 * a + j)) &&& left = 0)
def itN (μ : Nat → Int32) (a : Nat) (left : Int32) (j : Nat) : Nat := 400 * nA μ (16 + j) + 20 * pc (μ (144 + (8 * a + j)) &&& left) + pc (μ (144 + (8 * a + j)))
def wI (μ : Nat → Int32) (a : Nat) (left : Int32) : Option Nat → Int32
  | none => -1
  | some b => nI (itN μ a left b)
/-- b is the first of the greatest of those from J on -/
def BD (μ : Nat → Int32) (a : Nat) (c left : Int32) (J : Nat) (bo : Option Nat) : Prop := match bo with
  | none => ∀ j, J ≤ j → j < nN μ → elB μ a c left j = false
  | some b => J ≤ b ∧ b < nN μ ∧ elB μ a c left b = true ∧ ∀ j, J ≤ j → j < nN μ → elB μ a c left j = true → itN μ a left j < itN μ a left b ∨ (itN μ a left j = itN μ a left b ∧ b ≤ j)
theorem it_rnk (hI : MI μ) {left : Int32} {i j : Nat} (hi : i < 8) (hj : j < 8) : (itN μ a left i < itN μ a left j ↔ rnk μ a left i < rnk μ a left j) ∧ (itN μ a left i = itN μ a left j ↔ rnk μ a left i = rnk μ a left j) := by
  have w1 := mb_16 hI hi
  have w2 := mb_16 hI hj
  have p1 := pc_le (μ (144 + (8 * a + i)) &&& left)
  have p2 := pc_le (μ (144 + (8 * a + j)) &&& left)
  have q1 := pc_le (μ (144 + (8 * a + i)))
  have q2 := pc_le (μ (144 + (8 * a + j)))
  unfold itN rnk
  generalize nA μ (16 + i) = w at *
  generalize nA μ (16 + j) = w' at *
  generalize pc (μ (144 + (8 * a + i)) &&& left) = p at *
  generalize pc (μ (144 + (8 * a + j)) &&& left) = p' at *
  generalize pc (μ (144 + (8 * a + i))) = q at *
  generalize pc (μ (144 + (8 * a + j))) = q' at *
  constructor <;> omega
theorem itN_lt (hI : MI μ) {left : Int32} {j : Nat} (hj : j < 8) : itN μ a left j < 4000 := by
  have w1 := mb_16 hI hj
  have p1 := pc_le (μ (144 + (8 * a + j)) &&& left)
  have q1 := pc_le (μ (144 + (8 * a + j)))
  unfold itN
  omega
theorem BD.start {c left : Int32} : BD μ a c left (nN μ) none := fun j h1 h2 => by omega
theorem BD.no {c left : Int32} {J : Nat} {bo : Option Nat} (h : BD μ a c left (J + 1) bo) (e : elB μ a c left J = false) : BD μ a c left J bo := by
  cases bo with
  | none =>
    intro j h1 h2
    by_cases q : j = J
    · rw [q]; exact e
    · exact h j (by omega) h2
  | some b =>
    obtain ⟨h1, h2, h3, h4⟩ := h
    refine ⟨by omega, h2, h3, fun j h5 h6 h7 => ?_⟩
    by_cases q : j = J
    · rw [q, e] at h7; cases h7
    · exact h4 j (by omega) h6 h7
theorem BD.less {c left : Int32} {J : Nat} {bo : Option Nat} (hI : MI μ) (hJ : J < nN μ) (h : BD μ a c left (J + 1) bo) (q9 : nI (itN μ a left J) < wI μ a left bo) : BD μ a c left J bo := by
  have h8 := mi_8 hI
  have l1 := itN_lt (a := a) (left := left) hI (j := J) (by omega)
  cases bo with
  | none => exact absurd q9 (fun q => absurd (Int32.lt_trans q (m1_lt (a := itN μ a left J) (by omega))) Int32.lt_irrefl)
  | some b =>
    obtain ⟨h1, h2, h3, h4⟩ := h
    have l2 := itN_lt (a := a) (left := left) hI (j := b) (by omega)
    have q9 := (nI_ltI (by omega) (by omega)).mp q9
    refine ⟨by omega, h2, h3, fun j h5 h6 h7 => ?_⟩
    by_cases q : j = J
    · rw [q]; exact Or.inl q9
    · exact h4 j (by omega) h6 h7
theorem BD.more {c left : Int32} {J : Nat} {bo : Option Nat} (hI : MI μ) (hJ : J < nN μ) (h : BD μ a c left (J + 1) bo) (e : elB μ a c left J = true) (q9 : ¬ nI (itN μ a left J) < wI μ a left bo) : BD μ a c left J (some J) := by
  have h8 := mi_8 hI
  have l1 := itN_lt (a := a) (left := left) hI (j := J) (by omega)
  refine ⟨Nat.le_refl _, hJ, e, fun j h5 h6 h7 => ?_⟩
  by_cases q : j = J
  · subst q; exact Or.inr ⟨rfl, Nat.le_refl _⟩
  · cases bo with
    | none =>
      have := h j (by omega) h6
      rw [h7] at this
      cases this
    | some b =>
      obtain ⟨h1, h2, h3, h4⟩ := h
      have l2 := itN_lt (a := a) (left := left) hI (j := b) (by omega)
      have q9 : ¬ itN μ a left J < itN μ a left b := fun z => q9 ((nI_ltI (by omega) (by omega)).mpr z)
      have := h4 j (by omega) h6 h7
      omega
theorem bst_is (hI : MI μ) {c left : Int32} : ∀ n, n ≤ nN μ → match bst μ a c left n with
    | none => ∀ j, j < n → elB μ a c left j = false
    | some b => b < n ∧ elB μ a c left b = true ∧ ∀ j, j < n → elB μ a c left j = true → rnk μ a left j < rnk μ a left b ∨ (rnk μ a left j = rnk μ a left b ∧ b ≤ j)
  | 0, _ => fun j hj => absurd hj (Nat.not_lt_zero _)
  | n + 1, hn => by
    have ih := bst_is hI (c := c) (left := left) n (by omega)
    simp only [bst]
    by_cases ce : (tb c n && !decide (μ (144 + (8 * a + n)) &&& left = 0)) = true
    · rw [if_pos ce]
      have el : elB μ a c left n = true := ce
      revert ih
      cases bst μ a c left n with
      | none =>
        intro ih
        refine ⟨Nat.lt_succ_self n, el, fun j hj hel => ?_⟩
        by_cases q : j = n
        · subst q; exact Or.inr ⟨rfl, Nat.le_refl _⟩
        · have := ih j (by omega)
          rw [hel] at this
          cases this
      | some b =>
        intro ih
        obtain ⟨h1, h2, h3⟩ := ih
        simp only
        by_cases cr : rnk μ a left b < rnk μ a left n
        · rw [if_pos cr]
          refine ⟨Nat.lt_succ_self n, el, fun j hj hel => ?_⟩
          by_cases q : j = n
          · subst q; exact Or.inr ⟨rfl, Nat.le_refl _⟩
          · have := h3 j (by omega) hel
            omega
        · rw [if_neg cr]
          refine ⟨by omega, h2, fun j hj hel => ?_⟩
          by_cases q : j = n
          · subst q; omega
          · exact h3 j (by omega) hel
    · rw [if_neg ce]
      have el : elB μ a c left n = false := by
        cases q : elB μ a c left n
        · rfl
        · exact absurd q ce
      revert ih
      cases bst μ a c left n with
      | none =>
        intro ih j hj
        by_cases q : j = n
        · rw [q]; exact el
        · exact ih j (by omega)
      | some b =>
        intro ih
        obtain ⟨h1, h2, h3⟩ := ih
        refine ⟨by omega, h2, fun j hj hel => ?_⟩
        by_cases q : j = n
        · rw [q, el] at hel; cases hel
        · exact h3 j (by omega) hel
theorem BD.fin (hI : MI μ) {c left : Int32} {bo : Option Nat} (h : BD μ a c left 0 bo) : bst μ a c left (nN μ) = bo := by
  have h8 := mi_8 hI
  have hb := bst_is (a := a) hI (c := c) (left := left) (nN μ) (Nat.le_refl _)
  revert hb
  cases bst μ a c left (nN μ) with
  | none =>
    intro hb
    cases bo with
    | none => rfl
    | some b =>
      obtain ⟨h1, h2, h3, h4⟩ := h
      have := hb b h2
      rw [h3] at this
      cases this
  | some x =>
    intro hb
    obtain ⟨b1, b2, b3⟩ := hb
    cases bo with
    | none =>
      have := h x (Nat.zero_le _) b1
      rw [b2] at this
      cases this
    | some b =>
      obtain ⟨h1, h2, h3, h4⟩ := h
      have r1 := h4 x (Nat.zero_le _) b1 b2
      have r2 := b3 b h2 h3
      have r3 := it_rnk (a := a) (left := left) hI (i := x) (j := b) (by omega) (by omega)
      have r4 : x = b := by omega
      rw [r4]
theorem elB_no1 {c left : Int32} {j : Nat} (h : tb c j = false) : elB μ a c left j = false := by
  unfold elB
  rw [h]; rfl
theorem elB_no2 {c left : Int32} {j : Nat} (h : μ (144 + (8 * a + j)) &&& left = 0) : elB μ a c left j = false := by
  unfold elB
  rw [decide_eq_true h]
  cases tb c j <;> rfl
theorem elB_yes {c left : Int32} {j : Nat} (h1 : tb c j = true) (h : ¬ (μ (144 + (8 * a + j)) &&& left = 0)) : elB μ a c left j = true := by
  unfold elB
  rw [decide_eq_false h, h1]; rfl
/-! one by one -/
def PKI (μ : Nat → Int32) (a m : Nat) : Prop := (∀ j, j < m → ∃ x, pkB μ a (pkS μ a j) = some x) ∧ m + pc (opn μ a (pkS μ a m)) ≤ 8
theorem PKI.start : PKI μ a 0 := ⟨fun j hj => absurd hj (Nat.not_lt_zero _), by have := pc_le (opn μ a (pkS μ a 0)); omega⟩
theorem pkS_s {m x : Nat} (e : pkB μ a (pkS μ a m) = some x) : pkS μ a (m + 1) = pkS μ a m ||| bt1 x := by
  simp only [pkS]
  rw [e]
theorem PKI.s (hI : MI μ) (ha : a < nN μ) {m x : Nat} (h : PKI μ a m) (e : pkB μ a (pkS μ a m) = some x) : PKI μ a (m + 1) := by
  have h8 := mi_8 hI
  obtain ⟨h1, h2⟩ := h
  refine ⟨fun j hj => ?_, ?_⟩
  · by_cases q : j = m
    · rw [q]; exact ⟨x, e⟩
    · exact h1 j (by omega)
  · have := (opn_pc h8 (sb_opn hI (by omega)) e).2.2.1
    rw [pkS_s e]
    omega
theorem PKI.le {m : Nat} (h : PKI μ a m) : m ≤ 8 := by have := h.2; omega
theorem PKI.lt (hI : MI μ) (ha : a < nN μ) {m : Nat} (h : PKI μ a m) (hn : opn μ a (pkS μ a m) ≠ 0) : m < 8 := by
  have h8 := mi_8 hI
  have := pc_pos (sb_opn hI (i := a) (s := pkS μ a m) (by omega)) hn
  have := h.2
  omega
theorem pkn_8 : pkn μ a ≤ 8 := by
  unfold pkn
  cases e : fs (fun m => (pkB μ a (pkS μ a m)).isNone) 8 with
  | none => exact Nat.le_refl _
  | some v => exact Nat.le_of_lt (fs_lt e).1
theorem PKI.gt {m x : Nat} (h : PKI μ a m) (e : pkB μ a (pkS μ a m) = some x) (hm : m < 8) : m < pkn μ a := by
  unfold pkn
  cases q : fs (fun m => (pkB μ a (pkS μ a m)).isNone) 8 with
  | none => exact hm
  | some v =>
    obtain ⟨q1, q2⟩ := fs_lt q
    show m < v
    by_cases c : v ≤ m
    · exfalso
      have : ∃ y, pkB μ a (pkS μ a v) = some y := by
        by_cases z : v = m
        · rw [z]; exact ⟨x, e⟩
        · exact h.1 v (by omega)
      obtain ⟨y, hy⟩ := this
      simp only [hy] at q2
      cases q2
    · omega
theorem PKI.end {m : Nat} (h : PKI μ a m) (e : pkB μ a (pkS μ a m) = none) : pkn μ a ≤ m := by
  by_cases c : m < 8
  · unfold pkn
    rw [fs_here (n := m) (fun x hx => by
      obtain ⟨y, hy⟩ := h.1 x hx
      simp only [hy]
      rfl) (by simp only [e]; rfl) 8 c]
    exact Nat.le_refl _
  · exact Nat.le_trans pkn_8 (by omega)
theorem px_is {m x : Nat} (e : pkB μ a (pkS μ a m) = some x) : px μ a m = x := by
  unfold px
  rw [e]
  rfl
/-! those that are spare -/
theorem dS_yes {wl j : Nat} {s : Int32} (h1 : tb s j = true) (h2 : nA μ (16 + j) = wl) (h3 : bhd μ a &&& nots (kno μ a (s &&& nots (bt1 j))) = 0) : dS μ a wl (j + 1) s = dS μ a wl j (s &&& nots (bt1 j)) := by
  simp only [dS]
  rw [h1, decide_eq_true h2, decide_eq_true h3]
  rfl
theorem dS_n1 {wl j : Nat} {s : Int32} (h1 : tb s j = false) : dS μ a wl (j + 1) s = dS μ a wl j s := by
  simp only [dS]
  rw [h1]
  rfl
theorem dS_n2 {wl j : Nat} {s : Int32} (h2 : nA μ (16 + j) ≠ wl) : dS μ a wl (j + 1) s = dS μ a wl j s := by
  simp only [dS]
  rw [decide_eq_false h2, Bool.and_false]
  rfl
theorem dS_n3 {wl j : Nat} {s : Int32} (h3 : ¬ (bhd μ a &&& nots (kno μ a (s &&& nots (bt1 j))) = 0)) : dS μ a wl (j + 1) s = dS μ a wl j s := by
  simp only [dS]
  rw [decide_eq_false h3, Bool.and_false]
  rfl
end PI
