/-! calls in the forms that the walks take; plain facts on bits, sets, pictures -/
section GD
variable {X : GX} {w : Wd} {cc : ByteArray} {n pc pc' d : Nat} {own : String} {L : List (Nat × Value)} {st : List Value} {σ : Mem} {q : Mq} {d' idx np i ci : Nat} {As rest : List Value} {P : Mem → Prop} {fs : List (Nat ⊕ Nat)} {r : Int32}
theorem g_nm (k : ∀ σ', σ' = σ → G X w n pc L st σ') : G X w n pc L st σ := k σ rfl
theorem g_cvi (h : Fx X w cc n own d) (hM : MC X.2.1 w q d' (.ref (w.1 i) :: As) σ (some (.int r)) P) (hq : LmV q np) (hlk : Cond.methodLink own idx q.1 ∈ lw_tbl) (hd : d' < d) (hmax : q.2.2.1 < 18) (hs : Sc i (.inl (ci, fs))) (hcl : (vwCl[ci]?).map (fun z => z.1) = some q.1.cls) (hn : As.length = np) (hst : st = As.reverse ++ .ref (w.1 i) :: rest) (hrest : Nat.ble (rest.map fun v => v.category).sum 8 = true) (dd : Dx cc pc (.invokevirtual idx) 3 pc')
    (k : ∀ σ', P σ' → G X w n pc' L (.int r :: rest) σ') : G X w n pc L st σ := g_cv h hM hq hlk hd hmax hs hcl hn hst hrest dd k
theorem g_cvv (h : Fx X w cc n own d) (hM : MC X.2.1 w q d' (.ref (w.1 i) :: As) σ none P) (hq : LmV q np) (hlk : Cond.methodLink own idx q.1 ∈ lw_tbl) (hd : d' < d) (hmax : q.2.2.1 < 18) (hs : Sc i (.inl (ci, fs))) (hcl : (vwCl[ci]?).map (fun z => z.1) = some q.1.cls) (hn : As.length = np) (hst : st = As.reverse ++ .ref (w.1 i) :: rest) (hrest : Nat.ble (rest.map fun v => v.category).sum 8 = true) (dd : Dx cc pc (.invokevirtual idx) 3 pc')
    (k : ∀ σ', P σ' → G X w n pc' L rest σ') : G X w n pc L st σ := g_cv h hM hq hlk hd hmax hs hcl hn hst hrest dd k
theorem g_cvpi (h : Fx X w cc n own d) (hM : MC X.2.1 w q d' (.ref (w.1 i) :: As) σ (some (.int r)) (fun σ' => σ' = σ)) (hq : LmV q np) (hlk : Cond.methodLink own idx q.1 ∈ lw_tbl) (hd : d' < d) (hmax : q.2.2.1 < 18) (hs : Sc i (.inl (ci, fs))) (hcl : (vwCl[ci]?).map (fun z => z.1) = some q.1.cls) (hn : As.length = np) (hst : st = As.reverse ++ .ref (w.1 i) :: rest) (hrest : Nat.ble (rest.map fun v => v.category).sum 8 = true) (dd : Dx cc pc (.invokevirtual idx) 3 pc')
    (k : G X w n pc' L (.int r :: rest) σ) : G X w n pc L st σ := g_cv h hM hq hlk hd hmax hs hcl hn hst hrest dd (fun σ' e => by rw [e]; exact k)
theorem g_cspi (h : Fx X w cc n own d) (hM : MC X.2.1 w q d' As σ (some (.int r)) (fun σ' => σ' = σ)) (hq : LmS q np) (hlk : Cond.methodLink own idx q.1 ∈ lw_tbl) (hd : d' < d) (hmax : q.2.2.1 < 18) (hn : As.length = np) (hst : st = As.reverse ++ rest) (hrest : Nat.ble (rest.map fun v => v.category).sum 8 = true) (dd : Dx cc pc (.invokestatic idx) 3 pc')
    (k : G X w n pc' L (.int r :: rest) σ) : G X w n pc L st σ := g_cs h hM hq hlk hd hmax hn hst hrest dd (fun σ' e => by rw [e]; exact k)
end GD
theorem narrow_b2i (p : Bool) : narrow .boolean (.int (b2i p)) = .int (b2i p) := by cases p <;> rfl
def tb (s : Int32) (k : Nat) : Bool := s.toBitVec.getLsbD k
def bt1 (k : Nat) : Int32 := nI 1 <<< (nI k &&& 31)
def nots (x : Int32) : Int32 := x ^^^ (-1)
theorem s_ext {x y : Int32} (h : ∀ i, i < 32 → tb x i = tb y i) : x = y := Int32.toBitVec_inj.mp (BitVec.eq_of_getLsbD_eq (fun i hi => h i hi))
theorem tb_or (x y : Int32) (i : Nat) : tb (x ||| y) i = (tb x i || tb y i) := by unfold tb; rw [Int32.toBitVec_or, BitVec.getLsbD_or]
theorem tb_and (x y : Int32) (i : Nat) : tb (x &&& y) i = (tb x i && tb y i) := by unfold tb; rw [Int32.toBitVec_and, BitVec.getLsbD_and]
theorem tb_xor (x y : Int32) (i : Nat) : tb (x ^^^ y) i = (tb x i ^^ tb y i) := by unfold tb; rw [Int32.toBitVec_xor, BitVec.getLsbD_xor]
theorem tb_big {x : Int32} {i : Nat} (h : 32 ≤ i) : tb x i = false := BitVec.getLsbD_of_ge _ _ h
theorem tb_m1 : ∀ i, i < 32 → tb (-1) i = true := by decide +kernel
theorem tb_0 (i : Nat) : tb 0 i = false := BitVec.getLsbD_zero
theorem tb_n0 (i : Nat) : tb (nI 0) i = false := BitVec.getLsbD_zero
theorem tb_nots {x : Int32} {i : Nat} (h : i < 32) : tb (nots x) i = !tb x i := by
  unfold nots
  rw [tb_xor, tb_m1 i h, Bool.xor_true]
theorem tb_bt1_a : ∀ k, k < 32 → ∀ i, i < 32 → tb (bt1 k) i = decide (i = k) := by decide +kernel
theorem tb_bt1 {k : Nat} (hk : k < 32) (i : Nat) : tb (bt1 k) i = decide (i = k) := by
  by_cases hi : i < 32
  · exact tb_bt1_a k hk i hi
  · rw [tb_big (by omega)]
    simp
    omega
theorem s_l31 : ∀ n, n < 32 → ((nI n &&& 31).toBitVec.smod 32).toNat = n := by decide +kernel
theorem tb_shr (k : Nat) (hk : k < 32) (x : Int32) {i : Nat} (hi : i < 32) : tb (x >>> (nI k &&& 31)) i = if k + i < 32 then tb x (k + i) else tb x 31 := by
  show (x >>> (nI k &&& 31)).toBitVec.getLsbD i = _
  rw [Int32.toBitVec_shiftRight, BitVec.sshiftRight_eq', s_l31 k hk, BitVec.getLsbD_sshiftRight]
  have h : (decide (32 ≤ i)) = false := by simp; omega
  rw [h]
  simp only [Bool.not_false, Bool.true_and]
  rfl
theorem tb_one : ∀ i, i < 32 → tb (nI 1) i = decide (i = 0) := by decide +kernel
/-- has(set, k) -/
theorem has_eq {s : Int32} {k : Nat} (hk : k < 32) : (s >>> (nI k &&& 31)) &&& nI 1 = b2i (tb s k) := by
  apply s_ext
  intro i hi
  rw [tb_and, tb_one i hi, tb_shr k hk s hi]
  by_cases h0 : i = 0
  · subst h0
    have : k + 0 < 32 := by omega
    rw [if_pos this]
    cases tb s k <;> decide
  · have e : tb (b2i (tb s k)) i = false := by
      cases tb s k
      · exact tb_n0 i
      · show tb (nI 1) i = false
        rw [tb_one i hi]; simp [h0]
    simp [h0, e]
theorem or_0 (x : Int32) : x ||| 0 = x := s_ext fun i _ => by rw [tb_or, tb_0, Bool.or_false]
theorem or_n0 (x : Int32) : x ||| nI 0 = x := or_0 x
theorem zero_or (x : Int32) : nI 0 ||| x = x := s_ext fun i _ => by rw [tb_or, tb_n0, Bool.false_or]
/-- the set of those k below n of whom f holds -/
def mkS (f : Nat → Bool) : Nat → Int32
  | 0 => nI 0
  | j + 1 => if f j then mkS f j ||| bt1 j else mkS f j
theorem mkS_t {f : Nat → Bool} {j : Nat} (h : f j = true) : mkS f (j + 1) = mkS f j ||| bt1 j := by simp [mkS, h]
theorem mkS_f {f : Nat → Bool} {j : Nat} (h : f j = false) : mkS f (j + 1) = mkS f j := by simp [mkS, h]
theorem tb_mkS (f : Nat → Bool) : ∀ (n : Nat), n ≤ 32 → ∀ i, tb (mkS f n) i = (decide (i < n) && f i)
  | 0, _, i => by simp [mkS, tb_n0]
  | n + 1, h, i => by
    have ih := tb_mkS f n (by omega) i
    by_cases hf : f n = true
    · rw [mkS_t hf, tb_or, ih, tb_bt1 (by omega)]
      by_cases e : i = n
      · subst e; simp [hf]
      · have h1 : (i < n + 1) ↔ (i < n) := by omega
        simp [h1, e]
    · have hf' : f n = false := by simpa using hf
      rw [mkS_f hf', ih]
      by_cases e : i = n
      · subst e; simp [hf']
      · have h1 : (i < n + 1) ↔ (i < n) := by omega
        simp [h1]
/-- the union -/
def orS (f : Nat → Int32) : Nat → Int32
  | 0 => nI 0
  | j + 1 => orS f j ||| f j
def vw (b : Nat) (σ : Mem) : Nat → Int32 := fun j => if j < 464 ∧ j ≠ 10 then σ (b + j) else 0
theorem vw_at {b j : Nat} {σ : Mem} (h : j < 464 ∧ j ≠ 10) : σ (b + j) = vw b σ j := by simp [vw, h.1, h.2]
/-- how many nodes -/
def nN (μ : Nat → Int32) : Nat := (μ 0).toNatClampNeg
