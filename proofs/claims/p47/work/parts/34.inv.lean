/-! what ticks leave, and what the law's phases keep -/
/-- cells that a HELLO leaves -/
def fx9 (a : Nat) : Prop := a < 56 ∨ (144 ≤ a ∧ a < 208 ∧ (a - 144) % 9 = 0)
theorem hl1_fx {ls i j a : Nat} {μh : Nat → Int32} {s : TT} (ha : fx9 a) (hi : i < 8) (hj : j < 8) : (hl1 ls μh i j s).1 a = s.1 a := by
  unfold fx9 at ha
  unfold hl1
  split
  · rename_i c
    simp only [Bool.and_eq_true, Bool.not_eq_true', decide_eq_false_iff_not] at c
    have hij := c.1
    have e1 : a ≠ 80 + (8 * i + j) := by omega
    have e2 : a ≠ 56 + i := by omega
    have e3 : a ≠ 64 + i := by omega
    have e4 : a ≠ 144 + (8 * i + j) := by
      rcases ha with h | ⟨h1, h2, h3⟩
      · omega
      · intro e
        subst e
        rw [Nat.add_sub_cancel_left] at h3
        omega
    have e5 : a ≠ 72 + i := by omega
    unfold hrS
    dsimp only
    rw [if_neg e1, if_neg e2, if_neg e3, if_neg e4, if_neg e5]
  · rfl
theorem hlJ_fx {ls i a : Nat} {μh : Nat → Int32} {s : TT} (ha : fx9 a) (hi : i < 8) : ∀ n, n ≤ 8 → (hlJ ls μh i s n).1 a = s.1 a
  | 0, _ => rfl
  | n + 1, hn => by
    rw [hlJ, hl1_fx ha hi (by omega)]
    exact hlJ_fx ha hi n (by omega)
theorem hlI_fx {ls N a : Nat} {μh : Nat → Int32} {s : TT} (ha : fx9 a) (hN : N ≤ 8) : ∀ n, n ≤ 8 → (hlI ls μh N s n).1 a = s.1 a
  | 0, _ => rfl
  | n + 1, hn => by
    rw [hlI, hlJ_fx ha (by omega) N hN]
    exact hlI_fx ha hN n (by omega)
theorem tkA_fx {ls a : Nat} {s : TT} (h : MI s.1) (ha : fx9 a) : (tkA ls s).1 a = upd s.1 2 (s.1 2 + nI 1) a := by
  have h8 := mi_8 h
  unfold tkA
  rw [hlI_fx ha h8 (nN s.1) h8]
theorem tkD_fx {ls a : Nat} {s : TT} (h : MI s.1) (ha : a < 7 ∨ (10 ≤ a ∧ a < 32) ∨ (48 ≤ a ∧ a < 272)) : (tkD ls s).1 a = (tkC ls s).1 a := by
  obtain ⟨h1, h2⟩ := tkC_all (ls := ls) h
  unfold tkD
  split
  · exact (ntN_all (ls := ls) h1 (nN s.1) (by omega)).2.2 a (by omega) (by omega) (by omega)
  · rfl
theorem tkF_fx {ls a : Nat} {s : TT} (h : MI s.1) (ha : a < 7 ∨ (10 ≤ a ∧ a < 32) ∨ (48 ≤ a ∧ a < 208)) : (tkF ls s).1 a = (tkC ls s).1 a := by
  rw [← tkD_fx h (by omega)]
  unfold tkF esP
  dsimp only
  rw [if_neg (by omega)]
theorem tkC_fx {ls a : Nat} {s : TT} (h : MI s.1) (ha : a < 48 ∨ (56 ≤ a ∧ a < 400)) : (tkC ls s).1 a = (tkA ls s).1 a := by
  have h8 := mi_8 h
  unfold tkC
  exact rl_fix ha h8
theorem tkF_2 {ls : Nat} {s : TT} (h : MI s.1) : (tkF ls s).1 2 = s.1 2 + nI 1 := by
  rw [tkF_fx h (by omega), tkC_fx h (by omega), tkA_fx h (Or.inl (by omega)), upd_eq]
theorem tkF_w {ls j : Nat} {s : TT} (h : MI s.1) (hj : j < 8) : (tkF ls s).1 (16 + j) = s.1 (16 + j) := by
  rw [tkF_fx h (by omega), tkC_fx h (by omega), tkA_fx h (Or.inl (by omega)), upd_ne (by omega)]
/-- of itself nobody knows a thing -/
def KD (μ : Nat → Int32) : Prop := ∀ i, i < 8 → μ (144 + (8 * i + i)) = nI 0
theorem tkF_kd {ls : Nat} {s : TT} (h : MI s.1) (hk : KD s.1) : KD (tkF ls s).1 := fun i hi => by
  rw [tkF_fx h (by omega), tkC_fx h (by omega), tkA_fx h (Or.inr ⟨by omega, by omega, by rw [Nat.add_sub_cancel_left]; omega⟩), upd_ne (by omega)]
  exact hk i hi
/-- who is on has the relays that it would choose -/
def RLN (μ : Nat → Int32) : Prop := ∀ i, i < nN μ → tb (μ 1) i = true → μ (48 + i) = chos μ i
theorem tkF_rl {ls : Nat} {s : TT} (h : MI s.1) : RLN (tkF ls s).1 := fun i hi hon => by
  have h8 := mi_8 h
  obtain ⟨a1, a2⟩ := tkA_all (ls := ls) h
  have hN := (tkF_all (ls := ls) h).2
  rw [hN] at hi
  have hck : Ck (tkA ls s).1 (tkF ls s).1 := ⟨by rw [hN, a2], by omega, fun a ha => by rw [tkF_fx h (by omega), tkC_fx h (by omega)]⟩
  rw [tkF_fx h (by omega), tkC_fx h (by omega)] at hon
  rw [ck_chos hck (by omega), tkF_fx h (by omega)]
  unfold tkC rlP
  dsimp only
  rw [if_pos ⟨by omega, by omega, by rw [Nat.add_sub_cancel_left]; exact hon⟩, Nat.add_sub_cancel_left]
theorem tkL_fx {ls : Nat} {s : TT} (h : MI s.1) (hk : KD s.1) : ∀ m, (tkL ls s m).1 2 = s.1 2 + nI m ∧ (∀ j, j < 8 → (tkL ls s m).1 (16 + j) = s.1 (16 + j)) ∧ KD (tkL ls s m).1 ∧ (0 < m → RLN (tkL ls s m).1)
  | 0 => ⟨(Int32.add_zero _).symm, fun _ _ => rfl, hk, fun q => absurd q (Nat.lt_irrefl 0)⟩
  | m + 1 => by
    obtain ⟨h1, h2, h3, h4⟩ := tkL_fx h hk m
    have hI := (tkL_all (ls := ls) h m).1
    refine ⟨?_, fun j hj => ?_, tkF_kd hI h3, fun _ => tkF_rl hI⟩
    · rw [tkL, tkF_2 hI, h1, Int32.add_assoc, nI_add]
    · rw [tkL, tkF_w hI hj]
      exact h2 j hj
/-! the phases -/
/-- a nodes are there -/
def P1 (μ : Nat → Int32) (a : Nat) (W : Nat → Int32) : Prop := nN μ = a ∧ μ 7 = nI 0 ∧ μ 2 = nI 0 ∧ KD μ ∧ (∀ j, j < a → tb (μ 1) j = true) ∧ (∀ i, i < 8 → ∀ j, tb (μ (24 + i)) j = false) ∧ ∀ j, j < a → W j = μ (16 + j)
theorem adW_ne {μ : Nat → Int32} {x c : Nat} (h0 : c ≠ 0) (h1 : c ≠ 1) (h2 : c ≠ 16 + nN μ) : adW μ x c = μ c := by
  unfold adW
  rw [upd_ne h0, upd_ne h1, upd_ne h2]
theorem P1.s {μ : Nat → Int32} {a x : Nat} {W : Nat → Int32} (h : P1 μ a W) (hI : MI μ) (ha : a < 8) (hx : x < 8) : P1 (adW μ x) (a + 1) (upd W a (nI x)) := by
  obtain ⟨h1, h2, h3, h4, h5, h6, h7⟩ := h
  subst h1
  refine ⟨(ad_mi hI ha hx).2, ?_, ?_, fun i hi => ?_, fun j hj => ?_, fun i hi j => ?_, fun j hj => ?_⟩
  · rw [adW_ne (by omega) (by omega) (by omega)]; exact h2
  · rw [adW_ne (by omega) (by omega) (by omega)]; exact h3
  · rw [adW_ne (by omega) (by omega) (by omega)]; exact h4 i hi
  · have e : adW μ x 1 = μ 1 ||| bt1 (nN μ) := by
      unfold adW
      rw [upd_ne (by omega), upd_eq]
    rw [e, tb_or, tb_bt1 (by omega)]
    by_cases q : j = nN μ
    · rw [decide_eq_true q, Bool.or_true]
    · rw [h5 j (by omega), Bool.true_or]
  · rw [adW_ne (by omega) (by omega) (by omega)]; exact h6 i hi j
  · by_cases q : j = nN μ
    · subst q
      unfold adW
      rw [upd_ne (a := 16 + nN μ) (by omega), upd_ne (a := 16 + nN μ) (by omega), upd_eq]
      exact upd_eq.symm
    · rw [adW_ne (by omega) (by omega) (by omega), ← h7 j (by omega)]
      exact pk_un q
/-- those before a have been told whom they hear, a of those before b -/
def P2 (μ : Nat → Int32) (n a b : Nat) (W : Nat → Int32) : Prop := nN μ = n ∧ μ 7 = nI 0 ∧ μ 2 = nI 0 ∧ KD μ ∧ (∀ j, a ≤ j → j < n → tb (μ 1) j = true) ∧ (∀ i j, i < 8 → (a < i ∨ (i = a ∧ b ≤ j)) → tb (μ (24 + i)) j = false) ∧ ∀ j, j < n → W j = μ (16 + j)
theorem P1.p2 {μ : Nat → Int32} {n : Nat} {W : Nat → Int32} (h : P1 μ n W) : P2 μ n 0 0 W := by
  obtain ⟨h1, h2, h3, h4, h5, h6, h7⟩ := h
  exact ⟨h1, h2, h3, h4, fun j _ hj => h5 j hj, fun i j hi _ => h6 i hi j, h7⟩
theorem P2.no {μ : Nat → Int32} {n a b : Nat} {W : Nat → Int32} (h : P2 μ n a b W) : P2 μ n a (b + 1) W := by
  obtain ⟨h1, h2, h3, h4, h5, h6, h7⟩ := h
  exact ⟨h1, h2, h3, h4, h5, fun i j hi q => h6 i j hi (by omega), h7⟩
theorem P2.ear {μ : Nat → Int32} {n a b : Nat} {W : Nat → Int32} (h : P2 μ n a b W) (h8 : n ≤ 8) (ha : a < 8) (hb : b < 8) : P2 (upd μ (24 + a) (wth (μ (24 + a)) b true)) n a (b + 1) W := by
  obtain ⟨h1, h2, h3, h4, h5, h6, h7⟩ := h
  refine ⟨by rw [nN_upd (by omega)]; exact h1, by rw [upd_ne (by omega)]; exact h2, by rw [upd_ne (by omega)]; exact h3, fun i hi => by rw [upd_ne (by omega)]; exact h4 i hi, fun j q1 q2 => by rw [upd_ne (by omega)]; exact h5 j q1 q2, fun i j hi q => ?_, fun j hj => by rw [upd_ne (by omega)]; exact h7 j hj⟩
  by_cases e : i = a
  · subst e
    rw [upd_eq]
    by_cases e2 : j < 32
    · rw [tb_wth (by omega) e2, if_neg (by omega)]
      exact h6 i j hi (by omega)
    · exact tb_big (by omega)
  · rw [upd_ne (by omega)]
    exact h6 i j hi (by omega)
theorem P2.next {μ : Nat → Int32} {n a b : Nat} {W : Nat → Int32} (h : P2 μ n a b W) : P2 μ n (a + 1) 0 W := by
  obtain ⟨h1, h2, h3, h4, h5, h6, h7⟩ := h
  exact ⟨h1, h2, h3, h4, fun j q1 q2 => h5 j (by omega) q2, fun i j hi q => h6 i j hi (by omega), h7⟩
theorem P2.turn {μ : Nat → Int32} {n a b : Nat} {W : Nat → Int32} (h : P2 μ n a b W) (h8 : n ≤ 8) (ha : a < n) : P2 (upd μ 1 (wth (μ 1) a false)) n (a + 1) 0 W := by
  obtain ⟨h1, h2, h3, h4, h5, h6, h7⟩ := h
  refine ⟨by rw [nN_upd (by omega)]; exact h1, by rw [upd_ne (by omega)]; exact h2, by rw [upd_ne (by omega)]; exact h3, fun i hi => by rw [upd_ne (by omega)]; exact h4 i hi, fun j q1 q2 => ?_, fun i j hi q => by rw [upd_ne (by omega)]; exact h6 i j hi (by omega), fun j hj => by rw [upd_ne (by omega)]; exact h7 j hj⟩
  rw [upd_eq, tb_wth (by omega) (by omega), if_neg (by omega)]
  exact h5 j (by omega) q2
theorem P1.start : P1 bgP 0 (fun _ => nI 0) := by
  refine ⟨rfl, bgP_0 (by omega), bgP_0 (by omega), fun i hi => bgP_0 (by omega), fun j hj => absurd hj (Nat.not_lt_zero _), fun i hi j => ?_, fun j hj => absurd hj (Nat.not_lt_zero _)⟩
  rw [bgP_0 (by omega)]
  exact tb_n0 j
/-- behind the ticks -/
def P4 (μ : Nat → Int32) (n : Nat) (W : Nat → Int32) : Prop := nN μ = n ∧ KD μ ∧ RLN μ ∧ ∀ j, j < n → W j = μ (16 + j)
theorem P2.tick {μ : Nat → Int32} {n a b m : Nat} {W : Nat → Int32} {g : Nat → Nat → Int32} (h : P2 μ n a b W) (hI : MI μ) (hm : 0 < m) : P4 (tkL 0 (μ, 0, nI 0, g) m).1 n W ∧ (tkL 0 (μ, 0, nI 0, g) m).1 2 = nI m := by
  obtain ⟨h1, h2, h3, h4, h5, h6, h7⟩ := h
  have h8 := mi_8 hI
  obtain ⟨q1, q2, q3, q4⟩ := tkL_fx (ls := 0) (s := (μ, 0, nI 0, g)) hI h4 m
  refine ⟨⟨(tkL_all (ls := 0) (s := (μ, 0, nI 0, g)) hI m).2.trans h1, q3, q4 hm, fun j hj => ?_⟩, ?_⟩
  · rw [q2 j (by omega)]
    exact h7 j hj
  · rw [q1]
    show μ 2 + nI m = nI m
    rw [h3, nI_add, Nat.zero_add]
/-! the willing, one by one -/
def wlP (μ : Nat → Int32) (a b : Nat) : Int32 := mkS (fun j => tb (μ (64 + a)) j && decide (0 < nA μ (16 + j))) b
theorem wlP_t {μ : Nat → Int32} {a b : Nat} (h1 : tb (μ (64 + a)) b = true) (h2 : 0 < nA μ (16 + b)) : wlP μ a b ||| bt1 b = wlP μ a (b + 1) := (mkS_t (by rw [h1, decide_eq_true h2]; rfl)).symm
theorem wlP_f1 {μ : Nat → Int32} {a b : Nat} (h1 : tb (μ (64 + a)) b = false) : wlP μ a b ||| nI 0 = wlP μ a (b + 1) := by
  rw [or_n0]
  exact (mkS_f (by rw [h1]; rfl)).symm
theorem wlP_f2 {μ : Nat → Int32} {a b : Nat} (h2 : nA μ (16 + b) = 0) : wlP μ a b ||| nI 0 = wlP μ a (b + 1) := by
  rw [or_n0]
  exact (mkS_f (by rw [h2, decide_eq_false (Nat.lt_irrefl 0), Bool.and_false])).symm
/-! the least, one by one -/
theorem lsO_n1 {μ : Nat → Int32} {a k : Nat} (h : ¬ (nI k &&& nots (wil μ a) = 0)) : lsO μ a k = lsO μ a (k + 1) := by
  simp only [lsO]
  rw [decide_eq_false h]
  rfl
theorem lsO_n2 {μ : Nat → Int32} {a k : Nat} (h : ¬ (bhd μ a &&& nots (kno μ a (nI k)) = 0)) : lsO μ a k = lsO μ a (k + 1) := by
  simp only [lsO]
  rw [decide_eq_false h, Bool.and_false]
  rfl
theorem lsO_y1 {μ : Nat → Int32} {a k : Nat} (h1 : nI k &&& nots (wil μ a) = 0) (h2 : bhd μ a &&& nots (kno μ a (nI k)) = 0) (h3 : lsO μ a k = none) : some k = lsO μ a (k + 1) := by
  simp only [lsO]
  rw [decide_eq_true h1, decide_eq_true h2, h3]
  rfl
theorem lsO_y2 {μ : Nat → Int32} {a k x : Nat} (h1 : nI k &&& nots (wil μ a) = 0) (h2 : bhd μ a &&& nots (kno μ a (nI k)) = 0) (h3 : lsO μ a k = some x) (h4 : pc (nI k) < pc (nI x)) : some k = lsO μ a (k + 1) := by
  simp only [lsO]
  rw [decide_eq_true h1, decide_eq_true h2, h3]
  exact (if_pos h4).symm
theorem lsO_y3 {μ : Nat → Int32} {a k x : Nat} (h1 : nI k &&& nots (wil μ a) = 0) (h2 : bhd μ a &&& nots (kno μ a (nI k)) = 0) (h3 : lsO μ a k = some x) (h4 : ¬ pc (nI k) < pc (nI x)) : lsO μ a k = lsO μ a (k + 1) := by
  rw [h3]
  simp only [lsO]
  rw [decide_eq_true h1, decide_eq_true h2, h3]
  exact (if_neg h4).symm
theorem nI_hi {k m : Nat} (hm : m ≤ 8) (h1 : 2 ^ m ≤ k) (h2 : k < 256) : ∃ j, m ≤ j ∧ j < 8 ∧ tb (nI k) j = true := by
  by_cases e : ∃ j, m ≤ j ∧ j < 8 ∧ tb (nI k) j = true
  · exact e
  · exfalso
    have : k < 2 ^ m := Nat.lt_pow_two_of_testBit k (fun i hi => by
      by_cases q : i < 8
      · cases z : k.testBit i
        · rfl
        · exact absurd ⟨i, hi, q, by rw [tb_nI (by omega)]; exact z⟩ e
      · exact Nat.testBit_lt_two_pow (Nat.lt_of_lt_of_le h2 (Nat.pow_le_pow_right (n := 2) (by decide) (show 8 ≤ i by omega))))
    omega
/-- sets with a node that there is not don't serve -/
theorem lsO_hi {μ : Nat → Int32} {a : Nat} (hI : MI μ) : ∀ k, 2 ^ nN μ + k ≤ 256 → lsO μ a (2 ^ nN μ + k) = lsO μ a (2 ^ nN μ)
  | 0, _ => rfl
  | k + 1, hk => by
    have h8 := mi_8 hI
    rw [← lsO_hi hI k (by omega)]
    refine (lsO_n1 fun e => ?_).symm
    obtain ⟨j, q1, q2, q3⟩ := nI_hi h8 (k := 2 ^ nN μ + k) (by omega) (by omega)
    have q4 : tb (wil μ a) j = false := by
      unfold wil
      rw [tb_mkS _ _ (by omega), decide_eq_false (by omega)]
      rfl
    have q5 : (tb (nI (2 ^ nN μ + k)) j && tb (nots (wil μ a)) j) = tb 0 j := by
      rw [← tb_and]
      exact congrArg (fun s => tb s j) e
    rw [q3, tb_nots (by omega), q4, tb_0] at q5
    cases q5
theorem lst_is {μ : Nat → Int32} {a : Nat} (hI : MI μ) : oI (lsO μ a (2 ^ nN μ)) = lst μ a := by
  have h8 := mi_8 hI
  have h2 := p2_8 h8
  unfold lst
  have e := lsO_hi (a := a) hI (256 - 2 ^ nN μ) (by omega)
  rw [show 2 ^ nN μ + (256 - 2 ^ nN μ) = 256 from by omega] at e
  rw [e]
theorem oI_none {o : Option Nat} (h : oI o = -1) (hb : ∀ x, o = some x → x < 2 ^ 31) : o = none := by
  cases o with
  | none => rfl
  | some x => exact absurd h (nI_ne_m1 (hb x rfl))
theorem oI_some {o : Option Nat} (h : ¬ oI o = -1) : ∃ x, o = some x := by
  cases o with
  | none => exact absurd rfl h
  | some x => exact ⟨x, rfl⟩
/-! who is needed, one by one -/
def alP (μ : Nat → Int32) (a : Nat) (s b : Int32) (k : Nat) : Int32 := mkS (fun j => tb s j && !decide (μ (144 + (8 * a + j)) &&& b &&& nots (kno μ a (s &&& nots (bt1 j))) = 0)) k
theorem and_cm (x y : Int32) : x &&& y = y &&& x := s_ext fun i _ => by rw [tb_and, tb_and, Bool.and_comm]
theorem alP_t {μ : Nat → Int32} {a k : Nat} {s b : Int32} (h1 : tb s k = true) (h2 : ¬ (b &&& μ (144 + (8 * a + k)) &&& nots (kno μ a (s &&& nots (bt1 k))) = 0)) : alP μ a s b k ||| bt1 k = alP μ a s b (k + 1) :=
  (mkS_t (by rw [h1, decide_eq_false (by rw [and_cm (μ (144 + (8 * a + k))) b]; exact h2)]; rfl)).symm
theorem alP_f1 {μ : Nat → Int32} {a k : Nat} {s b : Int32} (h1 : tb s k = false) : alP μ a s b k = alP μ a s b (k + 1) := (mkS_f (by rw [h1]; rfl)).symm
theorem alP_f2 {μ : Nat → Int32} {a k : Nat} {s b : Int32} (h2 : b &&& μ (144 + (8 * a + k)) &&& nots (kno μ a (s &&& nots (bt1 k))) = 0) : alP μ a s b k = alP μ a s b (k + 1) :=
  (mkS_f (by rw [decide_eq_true (by rw [and_cm (μ (144 + (8 * a + k))) b]; exact h2)]; cases tb s k <;> rfl)).symm
/-! what is left -/
theorem sb_mN {n : Nat} (hn : n ≤ 8) : sb n (bt1 n - nI 1) := by
  have h2 := p2_8 hn
  rw [bt1m hn]
  intro k hk
  by_cases q : k < 32
  · rw [tb_nI q]
    exact Nat.testBit_lt_two_pow (Nat.lt_of_lt_of_le (by omega) (Nat.pow_le_pow_right (n := 2) (by decide) hk))
  · exact tb_big (by omega)
theorem sb8_ge {s : Int32} (h : sb 8 s) : ¬ s < 0 := by
  obtain ⟨m, hm, rfl⟩ := s8_ex h
  exact nI_pos (by omega)
theorem was_t {μ : Nat → Int32} {a : Nat} (hR : RLN μ) (ha : a < nN μ) (h : tb (μ 1) a = true) : wasS μ a + (nI (pc (chos μ a)) - nI (pc (lst μ a))) = wasS μ (a + 1) := by
  simp only [wasS]
  rw [if_pos h, hR a ha h]
theorem was_f {μ : Nat → Int32} {a : Nat} (h : tb (μ 1) a = false) : wasS μ a + nI 0 = wasS μ (a + 1) := by
  simp only [wasS]
  rw [if_neg (by rw [h]; decide)]
  exact Int32.add_zero _
/-! the best WILL -/
def fW (μ : Nat → Int32) (i k : Nat) : Nat := smC (upd μ (16 + i) (nI k)) (nN μ)
theorem bw_is {μ : Nat → Int32} {i : Nat} : ∀ n, (bwS μ i (n + 1)).1 ≤ n ∧ (bwS μ i (n + 1)).2 = fW μ i (bwS μ i (n + 1)).1 ∧ (∀ k, k ≤ n → (bwS μ i (n + 1)).2 ≤ fW μ i k) ∧ ∀ k, k ≤ n → fW μ i k = (bwS μ i (n + 1)).2 → (bwS μ i (n + 1)).1 ≤ k
  | 0 => by
    rw [bw_1 (Or.inl rfl)]
    exact ⟨Nat.le_refl _, rfl, fun k hk => by rw [show k = 0 from by omega]; exact Nat.le_refl _, fun k _ _ => Nat.zero_le k⟩
  | n + 1 => by
    obtain ⟨h1, h2, h3, h4⟩ := bw_is (μ := μ) (i := i) n
    by_cases c : fW μ i (n + 1) < (bwS μ i (n + 1)).2
    · rw [bw_1 (n := n + 1) (Or.inr c)]
      refine ⟨Nat.le_refl _, rfl, fun k hk => ?_, fun k hk e => ?_⟩
      · by_cases q : k = n + 1
        · rw [q]; exact Nat.le_refl _
        · exact Nat.le_trans (Nat.le_of_lt c) (h3 k (by omega))
      · by_cases q : k = n + 1
        · rw [q]; exact Nat.le_refl _
        · have := h3 k (by omega)
          have e : fW μ i k = fW μ i (n + 1) := e
          omega
    · rw [bw_0 (n := n + 1) (fun q => by rcases q with q | q; omega; exact c q)]
      refine ⟨by omega, h2, fun k hk => ?_, fun k hk e => ?_⟩
      · by_cases q : k = n + 1
        · rw [q]; omega
        · exact h3 k (by omega)
      · by_cases q : k = n + 1
        · omega
        · exact h4 k (by omega) e
theorem fW_id {μ : Nat → Int32} {i k : Nat} (h : μ (16 + i) = nI k) : fW μ i k = smC μ (nN μ) := by
  unfold fW
  rw [← h, upd_id]
