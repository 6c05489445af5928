/-! what the documents' words come to, over a mesh's picture: sets, choices -/
def fN {α : Type} (f : Nat → α → α) (a : α) : Nat → α
  | 0 => a
  | n + 1 => f n (fN f a n)
def pI : Nat → Int32
  | 0 => -1
  | j + 1 => nI j
def oI : Option Nat → Int32
  | none => -1
  | some b => nI b
theorem nI_ne_m1 {a : Nat} (ha : a < 2 ^ 31) : ¬ (nI a = -1) := by
  intro e
  have h1 := congrArg Int32.toInt e
  rw [nI_toInt ha] at h1
  have h2 : (-1 : Int32).toInt = -1 := by decide
  omega
theorem nI_le_m1 {a : Nat} (ha : a < 2 ^ 31) : ¬ (nI a ≤ -1) := by
  intro e
  have h1 := Int32.le_iff_toInt_le.mp e
  rw [nI_toInt ha] at h1
  have h2 : (-1 : Int32).toInt = -1 := by decide
  omega
theorem m1_lt {a : Nat} (ha : a < 2 ^ 31) : (-1 : Int32) < nI a := by
  apply Int32.lt_iff_toInt_lt.mpr
  rw [nI_toInt ha]
  have h2 : (-1 : Int32).toInt = -1 := by decide
  omega
theorem nI_inj {a b : Nat} (ha : a < 2 ^ 31) (hb : b < 2 ^ 31) (h : nI a = nI b) : a = b := (nI_eq ha hb).mp h
theorem nI_suc1 {a : Nat} : nI (a + 1) - nI 1 = nI a := by
  rw [nI_succ]
  show nI a + 1 - 1 = nI a
  rw [Int32.add_sub_cancel]
theorem pI_of {a : Nat} : nI a - nI 1 = pI a := by
  cases a with
  | zero => decide
  | succ a => exact nI_suc1
theorem pI_dec {a : Nat} : nI a + Int32.ofInt (-1) = pI a := by
  rw [← pI_of]
  have e : Int32.ofInt (-1) = -(nI 1) := by decide
  rw [e, ← Int32.sub_eq_add_neg]
def sb (n : Nat) (s : Int32) : Prop := ∀ k, n ≤ k → tb s k = false
theorem sb_mono {m n : Nat} {s : Int32} (h : m ≤ n) (hs : sb m s) : sb n s := fun k hk => hs k (Nat.le_trans h hk)
theorem sb_andl {n : Nat} {x y : Int32} (h : sb n x) : sb n (x &&& y) := fun k hk => by rw [tb_and, h k hk]; rfl
theorem sb_or {n : Nat} {x y : Int32} (h : sb n x) (h' : sb n y) : sb n (x ||| y) := fun k hk => by rw [tb_or, h k hk, h' k hk]; rfl
theorem sb_0 {n : Nat} : sb n (nI 0) := fun k _ => tb_n0 k
theorem sb_mkS {f : Nat → Bool} {n : Nat} (hn : n ≤ 32) : sb n (mkS f n) := fun k hk => by
  rw [tb_mkS f n hn k]
  simp
  omega
theorem sb_bt1 {n k : Nat} (h : k < n) (hk : k < 32) : sb n (bt1 k) := fun j hj => by
  rw [tb_bt1 hk]
  simp
  omega
theorem s8_ex {s : Int32} (h : sb 8 s) : ∃ n, n < 256 ∧ s = nI n := by
  refine ⟨s.toBitVec.toNat, Nat.lt_pow_two_of_testBit (n := 8) _ (fun i hi => h i hi), ?_⟩
  apply Int32.toBitVec_inj.mp
  show s.toBitVec = BitVec.ofNat 32 s.toBitVec.toNat
  simp
def cnt (s : Int32) : Nat → Nat
  | 0 => 0
  | k + 1 => cnt s k + (tb s k).toNat
def pc (s : Int32) : Nat := cnt s 8
theorem cnt_le (s : Int32) : ∀ n, cnt s n ≤ n
  | 0 => Nat.le_refl _
  | n + 1 => by
    have := cnt_le s n
    have : (tb s n).toNat ≤ 1 := by cases tb s n <;> decide
    simp only [cnt]
    omega
theorem pc_le (s : Int32) : pc s ≤ 8 := cnt_le s 8
theorem pc_0 : pc (nI 0) = 0 := by decide
theorem cnt_bt1 {s : Int32} {k : Nat} (hk : k < 32) (hs : tb s k = false) : ∀ n, cnt (s ||| bt1 k) n = cnt s n + (decide (k < n)).toNat
  | 0 => by simp [cnt]
  | n + 1 => by
    simp only [cnt]
    rw [cnt_bt1 hk hs n, tb_or, tb_bt1 hk]
    by_cases e : n = k
    · subst e
      simp [hs]
    · by_cases e2 : k < n
      · have : k < n + 1 := by omega
        simp [e, e2, this]
        omega
      · have : ¬ k < n + 1 := by omega
        simp [e, e2, this]
theorem pc_bt1 {s : Int32} {k : Nat} (hk : k < 8) (hs : tb s k = false) : pc (s ||| bt1 k) = pc s + 1 := by
  show cnt _ 8 = cnt _ 8 + 1
  rw [cnt_bt1 (by omega) hs]
  simp [hk]
/-- the class's `with` -/
def wth (s : Int32) (k : Nat) (p : Bool) : Int32 := if p = true then s ||| bt1 k else s &&& nots (bt1 k)
theorem tb_wth {s : Int32} {k : Nat} {p : Bool} (hk : k < 32) {i : Nat} (hi : i < 32) : tb (wth s k p) i = if i = k then p else tb s i := by
  unfold wth
  cases p
  · simp only [Bool.false_eq_true, if_false]
    rw [tb_and, tb_nots hi, tb_bt1 hk]
    by_cases e : i = k <;> simp [e]
  · simp only [if_true]
    rw [tb_or, tb_bt1 hk]
    by_cases e : i = k <;> simp [e]
theorem wth_same {s : Int32} {k : Nat} (hk : k < 32) : wth s k (tb s k) = s := s_ext fun i hi => by
  rw [tb_wth hk hi]
  by_cases e : i = k
  · subst e; simp
  · simp [e]
theorem sb_wth {n : Nat} {s : Int32} {k : Nat} {p : Bool} (hs : sb n s) (hk : k < n) (hn : n ≤ 32) : sb n (wth s k p) := by
  unfold wth
  cases p
  · exact sb_andl hs
  · exact sb_or hs (sb_bt1 hk (by omega))
theorem mkS_w {f : Nat → Bool} {j : Nat} {p : Bool} (hj : j < 32) (hf : f j = p) : wth (mkS f j) j p = mkS f (j + 1) := s_ext fun i hi => by
  rw [tb_wth hj hi, tb_mkS f j (by omega), tb_mkS f (j + 1) (by omega)]
  by_cases e : i = j
  · subst e; simp [hf]
  · have : (i < j + 1) ↔ (i < j) := by omega
    simp [e, this]
def nA (μ : Nat → Int32) (a : Nat) : Nat := (μ a).toNatClampNeg
def nb (a : Nat) : Nat :=
  if a = 3 then 10 else if a = 4 then 100 else if a = 5 then 1000 else if a = 6 then 1000 else
  if 16 ≤ a ∧ a < 24 then 8 else if 32 ≤ a ∧ a < 40 then 16 else if 80 ≤ a ∧ a < 144 then 1000 else
  if 208 ≤ a ∧ a < 272 then 100 else if 336 ≤ a ∧ a < 400 then 16 else if 400 ≤ a ∧ a < 464 then 100 else 0
def MI (μ : Nat → Int32) : Prop :=
  (μ 0 = nI (nN μ) ∧ nN μ ≤ 8) ∧ (∀ a, nb a ≠ 0 → μ a = nI (nA μ a) ∧ nA μ a < nb a) ∧ (1 ≤ nA μ 3 ∧ 1 ≤ nA μ 4 ∧ 1 ≤ nA μ 5 ∧ nA μ 6 ≤ nA μ 5) ∧
  (∀ i, i < 8 → tb (μ (24 + i)) i = false ∧ tb (μ (64 + i)) i = false) ∧
  (sb (nN μ) (μ 1) ∧ (∀ i, i < 8 → sb (nN μ) (μ (64 + i)) ∧ sb 8 (μ (48 + i))) ∧ (∀ k, k < 64 → sb 8 (μ (144 + k)))) ∧
  (∀ i j, i < 8 → nN μ ≤ j → j < 8 → μ (400 + (8 * i + j)) = nI 0)
section MIs
variable {μ : Nat → Int32}
theorem mi_0 (h : MI μ) : μ 0 = nI (nN μ) := h.1.1
theorem mi_8 (h : MI μ) : nN μ ≤ 8 := h.1.2
theorem mi_a (h : MI μ) {a : Nat} (ha : nb a ≠ 0) : μ a = nI (nA μ a) := (h.2.1 a ha).1
theorem mi_b (h : MI μ) {a : Nat} (ha : nb a ≠ 0) : nA μ a < nb a := (h.2.1 a ha).2
theorem nb16 {j : Nat} (h : j < 8) : nb (16 + j) = 8 := by
  unfold nb
  repeat (first | rw [if_neg (by omega)] | rw [if_pos (by omega)])
theorem nb32 {j : Nat} (h : j < 8) : nb (32 + j) = 16 := by
  unfold nb
  repeat (first | rw [if_neg (by omega)] | rw [if_pos (by omega)])
theorem nb80 {j : Nat} (h : j < 64) : nb (80 + j) = 1000 := by
  unfold nb
  repeat (first | rw [if_neg (by omega)] | rw [if_pos (by omega)])
theorem nb208 {j : Nat} (h : j < 64) : nb (208 + j) = 100 := by
  unfold nb
  repeat (first | rw [if_neg (by omega)] | rw [if_pos (by omega)])
theorem nb336 {j : Nat} (h : j < 64) : nb (336 + j) = 16 := by
  unfold nb
  repeat (first | rw [if_neg (by omega)] | rw [if_pos (by omega)])
theorem nb400 {j : Nat} (h : j < 64) : nb (400 + j) = 100 := by
  unfold nb
  repeat (first | rw [if_neg (by omega)] | rw [if_pos (by omega)])
theorem mi_16 (h : MI μ) {j : Nat} (hj : j < 8) : μ (16 + j) = nI (nA μ (16 + j)) := mi_a h (by rw [nb16 hj]; decide)
theorem mb_16 (h : MI μ) {j : Nat} (hj : j < 8) : nA μ (16 + j) < 8 := by
  have := mi_b h (a := 16 + j) (by rw [nb16 hj]; decide)
  rwa [nb16 hj] at this
theorem mi_32 (h : MI μ) {j : Nat} (hj : j < 8) : μ (32 + j) = nI (nA μ (32 + j)) := mi_a h (by rw [nb32 hj]; decide)
theorem mb_32 (h : MI μ) {j : Nat} (hj : j < 8) : nA μ (32 + j) < 16 := by
  have := mi_b h (a := 32 + j) (by rw [nb32 hj]; decide)
  rwa [nb32 hj] at this
theorem mi_80 (h : MI μ) {j : Nat} (hj : j < 64) : μ (80 + j) = nI (nA μ (80 + j)) := mi_a h (by rw [nb80 hj]; decide)
theorem mb_80 (h : MI μ) {j : Nat} (hj : j < 64) : nA μ (80 + j) < 1000 := by
  have := mi_b h (a := 80 + j) (by rw [nb80 hj]; decide)
  rwa [nb80 hj] at this
theorem mi_208 (h : MI μ) {j : Nat} (hj : j < 64) : μ (208 + j) = nI (nA μ (208 + j)) := mi_a h (by rw [nb208 hj]; decide)
theorem mb_208 (h : MI μ) {j : Nat} (hj : j < 64) : nA μ (208 + j) < 100 := by
  have := mi_b h (a := 208 + j) (by rw [nb208 hj]; decide)
  rwa [nb208 hj] at this
theorem mi_336 (h : MI μ) {j : Nat} (hj : j < 64) : μ (336 + j) = nI (nA μ (336 + j)) := mi_a h (by rw [nb336 hj]; decide)
theorem mb_336 (h : MI μ) {j : Nat} (hj : j < 64) : nA μ (336 + j) < 16 := by
  have := mi_b h (a := 336 + j) (by rw [nb336 hj]; decide)
  rwa [nb336 hj] at this
theorem mi_400 (h : MI μ) {j : Nat} (hj : j < 64) : μ (400 + j) = nI (nA μ (400 + j)) := mi_a h (by rw [nb400 hj]; decide)
theorem mb_400 (h : MI μ) {j : Nat} (hj : j < 64) : nA μ (400 + j) < 100 := by
  have := mi_b h (a := 400 + j) (by rw [nb400 hj]; decide)
  rwa [nb400 hj] at this
theorem mi_3 (h : MI μ) : μ 3 = nI (nA μ 3) := mi_a h (by decide)
theorem mb_3 (h : MI μ) : nA μ 3 < 10 := mi_b h (a := 3) (by decide)
theorem mi_4 (h : MI μ) : μ 4 = nI (nA μ 4) := mi_a h (by decide)
theorem mb_4 (h : MI μ) : nA μ 4 < 100 := mi_b h (a := 4) (by decide)
theorem mi_5 (h : MI μ) : μ 5 = nI (nA μ 5) := mi_a h (by decide)
theorem mb_5 (h : MI μ) : nA μ 5 < 1000 := mi_b h (a := 5) (by decide)
theorem mi_6 (h : MI μ) : μ 6 = nI (nA μ 6) := mi_a h (by decide)
theorem mb_6 (h : MI μ) : nA μ 6 < 1000 := mi_b h (a := 6) (by decide)
theorem ml_3 (h : MI μ) : 1 ≤ nA μ 3 := h.2.2.1.1
theorem ml_4 (h : MI μ) : 1 ≤ nA μ 4 := h.2.2.1.2.1
theorem ml_5 (h : MI μ) : 1 ≤ nA μ 5 := h.2.2.1.2.2.1
theorem ml_6 (h : MI μ) : nA μ 6 ≤ nA μ 5 := h.2.2.1.2.2.2
theorem mi_self (h : MI μ) {i : Nat} (hi : i < 8) : tb (μ (24 + i)) i = false ∧ tb (μ (64 + i)) i = false := h.2.2.2.1 i hi
theorem ms_on (h : MI μ) : sb (nN μ) (μ 1) := h.2.2.2.2.1.1
theorem ms_near (h : MI μ) {i : Nat} (hi : i < 8) : sb (nN μ) (μ (64 + i)) := (h.2.2.2.2.1.2.1 i hi).1
theorem ms_rel (h : MI μ) {i : Nat} (hi : i < 8) : sb 8 (μ (48 + i)) := (h.2.2.2.2.1.2.1 i hi).2
theorem ms_kno (h : MI μ) {k : Nat} (hk : k < 64) : sb 8 (μ (144 + k)) := h.2.2.2.2.1.2.2 k hk
theorem ml_left (h : MI μ) {i j : Nat} (hi : i < 8) (hj : nN μ ≤ j) (hj8 : j < 8) : μ (400 + (8 * i + j)) = nI 0 := h.2.2.2.2.2 i j hi hj hj8
end MIs
def wil (μ : Nat → Int32) (i : Nat) : Int32 := mkS (fun j => tb (μ (64 + i)) j && decide (0 < nA μ (16 + j))) (nN μ)
def kno (μ : Nat → Int32) (i : Nat) (s : Int32) : Int32 := orS (fun j => if tb s j = true then μ (144 + (8 * i + j)) else nI 0) (nN μ)
def bhd (μ : Nat → Int32) (i : Nat) : Int32 := kno μ i (wil μ i) &&& nots (μ (64 + i)) &&& nots (bt1 i)
def alo (μ : Nat → Int32) (i : Nat) (s b : Int32) : Int32 := mkS (fun j => tb s j && !decide (μ (144 + (8 * i + j)) &&& b &&& nots (kno μ i (s &&& nots (bt1 j))) = 0)) (nN μ)
def ful (μ : Nat → Int32) (i : Nat) : Nat → Int32
  | 0 => alo μ i (wil μ i) (bhd μ i)
  | j + 1 => if tb (wil μ i) j && decide (nA μ (16 + j) = 7) then ful μ i j ||| bt1 j else ful μ i j
def rnk (μ : Nat → Int32) (i : Nat) (left : Int32) (j : Nat) : Nat := (nA μ (16 + j) * 16 + pc (μ (144 + (8 * i + j)) &&& left)) * 16 + pc (μ (144 + (8 * i + j)))
def bst (μ : Nat → Int32) (i : Nat) (c left : Int32) : Nat → Option Nat
  | 0 => none
  | j + 1 => if tb c j && !decide (μ (144 + (8 * i + j)) &&& left = 0) then (match bst μ i c left j with | none => some j | some b => if rnk μ i left b < rnk μ i left j then some j else some b) else bst μ i c left j
def moI (μ : Nat → Int32) (i : Nat) (left : Int32) : Option Nat → Int32
  | none => -1
  | some b => nI (rnk μ i left b)
def opn (μ : Nat → Int32) (i : Nat) (s : Int32) : Int32 := bhd μ i &&& nots (kno μ i s)
def pkB (μ : Nat → Int32) (i : Nat) (s : Int32) : Option Nat := bst μ i (wil μ i &&& nots s) (opn μ i s) (nN μ)
def pkS (μ : Nat → Int32) (i : Nat) : Nat → Int32
  | 0 => ful μ i (nN μ)
  | n + 1 => match pkB μ i (pkS μ i n) with | none => pkS μ i n | some x => pkS μ i n ||| bt1 x
def dS (μ : Nat → Int32) (i wl : Nat) : Nat → Int32 → Int32
  | 0, s => s
  | j + 1, s => dS μ i wl j (if tb s j && decide (nA μ (16 + j) = wl) && decide (bhd μ i &&& nots (kno μ i (s &&& nots (bt1 j))) = 0) then s &&& nots (bt1 j) else s)
def dW (μ : Nat → Int32) (i : Nat) (s : Int32) : Nat → Int32
  | 0 => s
  | k + 1 => dS μ i k (nN μ) (dW μ i s k)
def chos (μ : Nat → Int32) (i : Nat) : Int32 := dW μ i (pkS μ i 8) 7
theorem rnk_lt {μ : Nat → Int32} {i j : Nat} {left : Int32} (h : MI μ) (hj : j < 8) : rnk μ i left j < 4096 := by
  have h1 := mb_16 h hj
  have h2 := pc_le (μ (144 + (8 * i + j)) &&& left)
  have h3 := pc_le (μ (144 + (8 * i + j)))
  unfold rnk
  omega
theorem bst_some {μ : Nat → Int32} {i : Nat} {c left : Int32} : ∀ {n x : Nat}, bst μ i c left n = some x → x < n ∧ tb c x = true ∧ μ (144 + (8 * i + x)) &&& left ≠ 0
  | 0, x, h => by simp [bst] at h
  | n + 1, x, h => by
    simp only [bst] at h
    have keep : ∀ y, bst μ i c left n = some y → y < n + 1 ∧ tb c y = true ∧ μ (144 + (8 * i + y)) &&& left ≠ 0 := fun y hy => by
      have := bst_some hy
      exact ⟨by omega, this.2⟩
    split at h
    · rename_i hc
      simp at hc
      split at h
      · cases h
        exact ⟨by omega, hc.1, hc.2⟩
      · rename_i b hb
        split at h
        · cases h
          exact ⟨by omega, hc.1, hc.2⟩
        · cases h
          exact keep _ hb
    · exact keep _ h
theorem bst_none {μ : Nat → Int32} {i : Nat} {c left : Int32} : ∀ {n : Nat}, bst μ i c left n = none → ∀ x, x < n → tb c x = true → μ (144 + (8 * i + x)) &&& left = 0
  | 0, _, x, hx, _ => absurd hx (Nat.not_lt_zero _)
  | n + 1, h, x, hx, hc => by
    simp only [bst] at h
    split at h
    · exfalso
      split at h
      · cases h
      · split at h <;> cases h
    · rename_i hq
      by_cases e : x = n
      · subst e
        simp [hc] at hq
        exact hq
      · exact bst_none h x (by omega) hc
theorem pkS_stop {μ : Nat → Int32} {i n : Nat} (h : pkB μ i (pkS μ i n) = none) : ∀ m, pkS μ i (n + m) = pkS μ i n
  | 0 => rfl
  | m + 1 => by
    show pkS μ i (n + m + 1) = _
    simp only [pkS]
    rw [pkS_stop h m, h]
def lsO (μ : Nat → Int32) (i : Nat) : Nat → Option Nat
  | 0 => none
  | n + 1 => if decide (nI n &&& nots (wil μ i) = 0) && decide (bhd μ i &&& nots (kno μ i (nI n)) = 0) then (match lsO μ i n with | none => some n | some b => if pc (nI n) < pc (nI b) then some n else some b) else lsO μ i n
def lst (μ : Nat → Int32) (i : Nat) : Int32 := oI (lsO μ i 256)
def PK (μ : Nat → Int32) (i : Nat) (τ : Mem) (ca la : Nat) : Prop := ∃ n, n ≤ 8 ∧ τ ca = nI n ∧ (n < 8 → pkB μ i (pkS μ i n) = none) ∧ ∀ m, m < n → ∃ x, pkB μ i (pkS μ i m) = some x ∧ τ (la + m) = nI x
theorem upd_eq {σ : Mem} {a : Nat} {x : Int32} : upd σ a x a = x := by simp [upd]
theorem upd_ne {σ : Mem} {a v : Nat} {x : Int32} (h : a ≠ v) : upd σ v x a = σ a := by simp [upd, h]
theorem vw_pic {b k : Nat} {σ : Mem} {μ : Nat → Int32} (hv : vw b σ = μ) (h : k < 464 ∧ k ≠ 10) : σ (b + k) = μ k := by rw [← hv]; exact vw_at h
theorem vw_out {b a : Nat} {σ : Mem} {x : Int32} (h : a < b ∨ b + 464 ≤ a ∨ a = b + 10) : vw b (upd σ a x) = vw b σ := by
  funext j
  unfold vw
  by_cases hj : j < 464 ∧ j ≠ 10
  · rw [if_pos hj, if_pos hj, upd_ne (by omega)]
  · rw [if_neg hj, if_neg hj]
theorem vw_in {b k : Nat} {σ : Mem} {x : Int32} (h : k < 464 ∧ k ≠ 10) : vw b (upd σ (b + k) x) = upd (vw b σ) k x := by
  funext j
  by_cases e : j = k
  · subst e
    unfold vw
    rw [if_pos h, upd_eq, upd_eq]
  · rw [upd_ne e]
    unfold vw
    by_cases hj : j < 464 ∧ j ≠ 10
    · rw [if_pos hj, if_pos hj, upd_ne (by omega)]
    · rw [if_neg hj, if_neg hj]
theorem vw_fr {b : Nat} {σ σ' : Mem} (h : ∀ j, j < 464 → j ≠ 10 → σ' (b + j) = σ (b + j)) : vw b σ' = vw b σ := by
  funext j
  unfold vw
  by_cases hj : j < 464 ∧ j ≠ 10
  · rw [if_pos hj, if_pos hj, h j hj.1 hj.2]
  · rw [if_neg hj, if_neg hj]
theorem pk_more {μ : Nat → Int32} {i n x la ca : Nat} {s : Int32} {τ τ1 τ2 : Mem} (hs : s = pkS μ i n) (hx : pkB μ i s = some x) (hli : ∀ m, m < n → ∃ x, pkB μ i (pkS μ i m) = some x ∧ τ (la + m) = nI x) (e1 : τ1 = upd τ (la + n) (nI x)) (e2 : τ2 = upd τ1 ca (nI (n + 1))) (hc : ∀ m, la + m ≠ ca ∨ n < m := by omega) : ∀ m, m < n + 1 → ∃ x, pkB μ i (pkS μ i m) = some x ∧ τ2 (la + m) = nI x := by
  intro m hm
  have h1 : la + m ≠ ca := by
    rcases hc m with h | h
    · exact h
    · omega
  rw [e2, upd_ne h1, e1]
  by_cases e : m = n
  · subst e
    exact ⟨x, by rw [← hs]; exact hx, upd_eq⟩
  · rw [upd_ne (by omega)]
    exact hli m (by omega)
theorem pkS_end {μ : Nat → Int32} {i n : Nat} {s : Int32} (hs : s = pkS μ i n) (h : pkB μ i s = none) (hn : n ≤ 8) : pkS μ i 8 = pkS μ i n := by
  rw [hs] at h
  have := pkS_stop h (8 - n)
  rwa [show n + (8 - n) = 8 from by omega] at this
theorem tb_wil {μ : Nat → Int32} {i k : Nat} (h8 : nN μ ≤ 8) (h : tb (wil μ i) k = true) : k < nN μ ∧ tb (μ (64 + i)) k = true ∧ 0 < nA μ (16 + k) := by
  unfold wil at h
  rw [tb_mkS _ _ (by omega)] at h
  simp at h
  exact ⟨h.1, h.2.1, h.2.2⟩
theorem tb_ful {μ : Nat → Int32} {i : Nat} (h8 : nN μ ≤ 8) : ∀ {n : Nat}, n ≤ 8 → ∀ k, tb (ful μ i n) k = true → tb (wil μ i) k = true
  | 0, _, k, h => by
    simp only [ful, alo] at h
    rw [tb_mkS _ _ (by omega)] at h
    simp at h
    exact h.2.1
  | n + 1, hn, k, h => by
    simp only [ful] at h
    split at h
    · rename_i hc
      rw [tb_or, tb_bt1 (by omega), Bool.or_eq_true] at h
      rcases h with h | h
      · exact tb_ful h8 (by omega) k h
      · have e : k = n := by simpa using h
        subst e
        simp at hc
        exact hc.1
    · exact tb_ful h8 (by omega) k h
theorem tb_pkS {μ : Nat → Int32} {i : Nat} (h8 : nN μ ≤ 8) : ∀ {n : Nat} (k : Nat), tb (pkS μ i n) k = true → tb (wil μ i) k = true
  | 0, k, h => tb_ful h8 h8 k h
  | n + 1, k, h => by
    simp only [pkS] at h
    split at h
    · exact tb_pkS h8 k h
    · rename_i x hx
      have hb := bst_some hx
      rw [tb_or, tb_bt1 (by omega), Bool.or_eq_true] at h
      rcases h with h | h
      · exact tb_pkS h8 k h
      · have e : k = x := by simpa using h
        subst e
        have := hb.2.1
        rw [tb_and, Bool.and_eq_true] at this
        exact this.1
theorem dS_id {μ : Nat → Int32} {i wl : Nat} {s : Int32} : ∀ {n : Nat}, (∀ j, j < n → tb s j = true → nA μ (16 + j) ≠ wl) → dS μ i wl n s = s
  | 0, _ => rfl
  | n + 1, h => by
    have e : (tb s n && decide (nA μ (16 + n) = wl) && decide (bhd μ i &&& nots (kno μ i (s &&& nots (bt1 n))) = 0)) = false := by
      cases q : tb s n
      · rfl
      · have := h n (by omega) q
        simp [this]
    simp only [dS, e]
    exact dS_id fun j hj => h j (by omega)
theorem dW_1 {μ : Nat → Int32} {i : Nat} (h : MI μ) : dW μ i (pkS μ i 8) 1 = pkS μ i 8 :=
  dS_id (μ := μ) (i := i) (wl := 0) fun j _ ht => Nat.ne_of_gt (tb_wil (mi_8 h) (tb_pkS (mi_8 h) j ht)).2.2
