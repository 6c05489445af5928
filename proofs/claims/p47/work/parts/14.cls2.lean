/-! methods of a class with rows of its own, for other methods -/
theorem MC.ofF {l : Launch} {w : Wd} {q : Mq} {d : Nat} {av : List Value} {σ : Mem} {v : Option Value} {P : Mem → Prop} (hW : Wi w) (hpl : plainFor q.1 = true) (hn : (lg_sl av).length ≤ q.2.2.1)
    (body : ∀ X : GX, Fx X w q.2.1 q.2.2.1 q.1.cls d → Qx X w q.2.2.2 v P → X.2.2.2.2.2.2.2.2.1.name = q.1.name → G X w q.2.2.1 0 (lv_args 0 av) [] σ) : MC l w q d av σ v P := by
  unfold MC Met
  refine MetFree.of_bodySF (code := q.2.1) (maxLocals := q.2.2.1) (ret := q.2.2.2) hpl ?_ ?_
  · intro args s m h hn
    obtain ⟨meth, c, h1, h2, h3, h4, h5, h6, -, -⟩ := Cond.code_spec hn (atoms_spec (ws := wsq q) h _ List.mem_cons_self)
    exact ⟨meth, c, h1, h2, h3, h4, h5, h6⟩
  · intro p e s m args below meth c s₁ B hml hv _
    have hh0 : s₁.heap = s.heap := by rw [B.state]; rfl
    obtain ⟨rfl, hP, hK⟩ := hv
    have hts := atoms_spec (ws := wsq q) B.pre
    have h := body (p, l, e, rmN d, s, m, av.toArray, below, meth, c, MQ below (QcOf w v P) av.toArray s 0 0 (wA w))
      ⟨B.exec, B.bytes, hml, findClass_of_methodNamed B.named, fun c hc hg => hts c (List.mem_cons_of_mem _ (List.mem_filter.mpr ⟨hc, hg⟩)), B.notSynchronized, rfl, hK, hW⟩ ⟨rfl, B.returns⟩ (name_of_methodNamed B.named B.method).1
    have hl := lv_entry av (n := q.2.2.1) hn
    rw [lg_entry_eq]
    obtain ⟨t, a1, o, b1, b2, b3⟩ := h s.heap [] _ hP va_S.rf hl s₁ hh0 (Stand.of_body B)
    exact ⟨t, o, a1, b1, b2, ⟨b3.1, b3.2⟩⟩
def RC (σ : Mem) (n : Nat) (rr : Nat → Nat) : Prop := ∀ k, k < n → σ (15140 + k) = nI (rr k)
theorem RC.fr {n : Nat} {rr : Nat → Nat} {σ σ' : Mem} (h : RC σ n rr) (f : ∀ a, 15140 ≤ a → a < 15140 + n → σ' a = σ a) : RC σ' n rr := fun k hk => by
  rw [f _ (by omega) (by omega)]
  exact h k hk
theorem RC.more {σ σ' : Mem} {rr : Nat → Nat} {many i : Nat} (h : RC σ many rr) (e : σ' = upd σ (15140 + many) (nI i)) : RC σ' (many + 1) (ru rr many i) := fun k hk => by
  by_cases e9 : k = many
  · subst e9
    rw [ru_eq, e]
    exact upd_eq
  · rw [ru_ne e9, e, upd_ne (by omega)]
    exact h k (by omega)
theorem rnw_same {μ : Nat → Int32} {i : Nat} (hi : i < 8) (h : μ (40 + i) = μ (72 + i)) : rnw μ i = μ := by
  unfold rnw
  rw [if_pos h.symm]
  funext a
  unfold upd
  split
  · rename_i e
    rw [e, h]
  · rfl
theorem rnw_new {μ : Nat → Int32} {i : Nat} (hi : i < 8) (h : ¬ μ (40 + i) = μ (72 + i)) : upd (upd μ (40 + i) (μ (72 + i))) (32 + i) (nI ((nA μ (32 + i) + 1) % 16)) = rnw μ i := by
  unfold rnw
  rw [if_neg (fun e => h e.symm)]
  funext a
  unfold upd
  by_cases e1 : a = 32 + i
  · rw [if_pos e1, if_neg (by omega), if_pos e1]
  · by_cases e2 : a = 40 + i
    · rw [if_neg e1, if_pos e2, if_pos e2]
    · rw [if_neg e1, if_neg e2, if_neg e2, if_neg e1]
def agP (μ : Nat → Int32) (i m : Nat) : Nat → Int32 := fun a => if 400 + 8 * i ≤ a ∧ a < 400 + 8 * i + m then nI (nA μ a - 1) else μ a
theorem ag_0 (μ : Nat → Int32) (i : Nat) : agP μ i 0 = μ := by
  funext a
  unfold agP
  rw [if_neg (by omega)]
theorem ag_at {μ : Nat → Int32} {i m : Nat} : agP μ i m (400 + (8 * i + m)) = μ (400 + (8 * i + m)) := by
  unfold agP
  rw [if_neg (by omega)]
theorem ag_s {μ : Nat → Int32} {i m : Nat} : upd (agP μ i m) (400 + (8 * i + m)) (nI (nA μ (400 + (8 * i + m)) - 1)) = agP μ i (m + 1) := by
  funext a
  unfold agP upd
  dsimp only
  by_cases e : a = 400 + (8 * i + m)
  · subst e
    rw [if_pos rfl, if_pos (by omega)]
  · rw [if_neg e]
    by_cases c : 400 + 8 * i ≤ a ∧ a < 400 + 8 * i + m
    · have c' : 400 + 8 * i ≤ a ∧ a < 400 + 8 * i + (m + 1) := by omega
      rw [if_pos c, if_pos c']
    · have c' : ¬ (400 + 8 * i ≤ a ∧ a < 400 + 8 * i + (m + 1)) := by omega
      rw [if_neg c, if_neg c']
/-- a node's topologies, all at once -/
theorem ag_rl {μ : Nat → Int32} {k : Nat} (hk : k < 8) (h : tb (μ 1) k = true) : agP (upd (rlP μ k (8 * k)) (48 + k) (chos μ k)) k 8 = rlP μ (k + 1) (8 * (k + 1)) := by
  rw [rl_c h]
  funext a
  unfold agP rlP nA
  dsimp only
  by_cases c : 48 ≤ a ∧ a < 48 + (k + 1) ∧ tb (μ 1) (a - 48) = true
  · rw [if_neg (by omega), if_pos c, if_pos c]
  · by_cases c2 : 400 + 8 * k ≤ a ∧ a < 400 + 8 * k + 8
    · have c3 : 400 ≤ a ∧ a < 400 + 8 * (k + 1) ∧ tb (μ 1) ((a - 400) / 8) = true := ⟨by omega, by omega, by rw [show (a - 400) / 8 = k from by omega]; exact h⟩
      have c4 : ¬ (400 ≤ a ∧ a < 400 + 8 * k ∧ tb (μ 1) ((a - 400) / 8) = true) := fun q => by omega
      rw [if_pos c2, if_neg c, if_neg c, if_neg c4, if_pos c3]
    · rw [if_neg c2, if_neg c]
      by_cases c5 : 400 ≤ a ∧ a < 400 + 8 * k ∧ tb (μ 1) ((a - 400) / 8) = true
      · have c3 : 400 ≤ a ∧ a < 400 + 8 * (k + 1) ∧ tb (μ 1) ((a - 400) / 8) = true := ⟨by omega, by omega, c5.2.2⟩
        rw [if_neg c, if_pos c5, if_pos c3]
      · have c3 : ¬ (400 ≤ a ∧ a < 400 + 8 * (k + 1) ∧ tb (μ 1) ((a - 400) / 8) = true) := fun q => c5 ⟨by omega, by omega, q.2.2⟩
        rw [if_neg c, if_neg c5, if_neg c3]
theorem rl_off {μ : Nat → Int32} {k : Nat} (hk : k < 8) (h : tb (μ 1) k = false) : rlP μ k (8 * k) = rlP μ (k + 1) (8 * (k + 1)) := by
  rw [rl_cn h]
  exact rl_skip (by omega) 8 (fun x h1 h2 => Or.inl (by rw [show x / 8 = k from by omega]; exact h))
theorem rl_end {μ : Nat → Int32} (h : MI μ) : rlP μ (nN μ) (8 * nN μ) = rlP μ (nN μ) 64 := by
  have h8 := mi_8 h
  have := rl_skip (μ := μ) (k := nN μ) (m := 8 * nN μ) h8 (64 - 8 * nN μ) (fun x h1 h2 => Or.inl (ms_on h (x / 8) (by omega)))
  rw [show 8 * nN μ + (64 - 8 * nN μ) = 64 from by omega] at this
  exact this
def esC (μ : Nat → Int32) (m : Nat) : Nat → Int32 := fun a => if 208 ≤ a ∧ a < 272 ∧ tr (a - 208) < m then nI (nA μ a - 1) else μ a
theorem tr_tr {c : Nat} (h : c < 64) : tr (tr c) = c := by
  unfold tr
  omega
theorem tr_lt {c : Nat} (h : c < 64) : tr c < 64 := by
  unfold tr
  omega
theorem ec_0 (μ : Nat → Int32) : esC μ 0 = μ := by
  funext a
  unfold esC
  rw [if_neg (by omega)]
theorem ec_at {μ : Nat → Int32} {m : Nat} (hm : m < 64) : esC μ m (208 + tr m) = μ (208 + tr m) := by
  unfold esC
  rw [if_neg (by rw [show 208 + tr m - 208 = tr m from by omega, tr_tr hm]; omega)]
theorem ec_s {μ : Nat → Int32} {m : Nat} (hm : m < 64) : upd (esC μ m) (208 + tr m) (nI (nA μ (208 + tr m) - 1)) = esC μ (m + 1) := by
  have hl := tr_lt hm
  have ht := tr_tr hm
  funext a
  unfold esC upd
  dsimp only
  by_cases e : a = 208 + tr m
  · subst e
    rw [if_pos rfl, if_pos ⟨by omega, by omega, by rw [show 208 + tr m - 208 = tr m from by omega, ht]; omega⟩]
  · rw [if_neg e]
    by_cases c : 208 ≤ a ∧ a < 272 ∧ tr (a - 208) < m
    · rw [if_pos c, if_pos ⟨c.1, c.2.1, by omega⟩]
    · have c' : ¬ (208 ≤ a ∧ a < 272 ∧ tr (a - 208) < m + 1) := fun q => by
        by_cases q2 : tr (a - 208) = m
        · have q3 := tr_tr (c := a - 208) (by omega)
          rw [q2] at q3
          omega
        · exact c ⟨q.1, q.2.1, by omega⟩
      rw [if_neg c, if_neg c']
theorem ec_end (μ : Nat → Int32) : esC μ 64 = esP μ 64 := by
  funext a
  unfold esC esP
  by_cases c : 208 ≤ a ∧ a < 208 + 64
  · rw [if_pos c, if_pos ⟨by omega, by omega, tr_lt (by omega)⟩]
  · rw [if_neg c, if_neg (by omega)]
def prP (μ : Nat → Int32) (i j : Nat) (h : Bool) : Nat → Int32 := upd (upd μ (80 + (8 * i + j)) (nI (prv (nA μ (80 + (8 * i + j))) h))) (56 + i) (wth (μ (56 + i)) j (hrU μ i j h))
def leN (μh ν : Nat → Int32) (i j : Nat) (h : Bool) : Bool := (if h = true then tb (μh (56 + j)) i else tb (ν (64 + i)) j) && tb (ν (56 + i)) j
def leP (μh ν : Nat → Int32) (i j : Nat) (h : Bool) : Nat → Int32 :=
  upd (upd (upd ν (64 + i) (wth (ν (64 + i)) j (leN μh ν i j h))) (72 + i) (wth (ν (72 + i)) j (leN μh ν i j h && (if h = true then tb (μh (48 + j)) i else tb (ν (72 + i)) j))))
    (144 + (8 * i + j)) (if leN μh ν i j h = true then (if h = true then μh (64 + j) else ν (144 + (8 * i + j))) else nI 0)
theorem pr_le {μh μ : Nat → Int32} {i j : Nat} {h : Bool} (hi : i < 8) (hj : j < 8) : leP μh (prP μ i j h) i j h = hrS μh μ i j h := by
  have e64 : prP μ i j h (64 + i) = μ (64 + i) := by unfold prP; rw [upd_ne (by omega), upd_ne (by omega)]
  have e72 : prP μ i j h (72 + i) = μ (72 + i) := by unfold prP; rw [upd_ne (by omega), upd_ne (by omega)]
  have e144 : prP μ i j h (144 + (8 * i + j)) = μ (144 + (8 * i + j)) := by unfold prP; rw [upd_ne (by omega), upd_ne (by omega)]
  have e56 : prP μ i j h (56 + i) = wth (μ (56 + i)) j (hrU μ i j h) := by unfold prP; exact upd_eq
  have eN : leN μh (prP μ i j h) i j h = hrN μh μ i j h := by
    unfold leN hrN
    rw [e64, e56, tb_wth (by omega) (by omega), if_pos rfl, Bool.and_comm]
  unfold leP
  rw [eN, e64, e72, e144]
  funext a
  unfold hrS
  by_cases a1 : a = 80 + (8 * i + j)
  · rw [if_pos a1, upd_ne (by omega), upd_ne (by omega), upd_ne (by omega)]
    unfold prP
    rw [upd_ne (by omega), a1]
    exact upd_eq
  · rw [if_neg a1]
    by_cases a2 : a = 56 + i
    · rw [if_pos a2, upd_ne (by omega), upd_ne (by omega), upd_ne (by omega), a2]
      exact e56
    · rw [if_neg a2]
      by_cases a3 : a = 64 + i
      · rw [if_pos a3, upd_ne (by omega), upd_ne (by omega), a3]
        exact upd_eq
      · rw [if_neg a3]
        have ep : ∀ b, b ≠ 80 + (8 * i + j) → b ≠ 56 + i → prP μ i j h b = μ b := fun b h1 h2 => by unfold prP; rw [upd_ne h2, upd_ne h1]
        by_cases a4 : a = 144 + (8 * i + j)
        · rw [if_pos a4, a4, upd_eq]
          cases h
          · cases hrN μh μ i j false <;> simp
          · cases hrN μh μ i j true <;> simp
        · rw [if_neg a4, upd_ne a4]
          by_cases a5 : a = 72 + i
          · rw [if_pos a5, a5, upd_eq]
            cases h
            · cases hrN μh μ i j false
              · simp
              · have := wth_same (s := μ (72 + i)) (k := j) (by omega)
                simpa using this
            · cases hrN μh μ i j true <;> simp
          · rw [if_neg a5, upd_ne a5, upd_ne a3]
            exact ep a a1 a2
theorem mx_key : ∀ n, n < 100 → (nI 0 < nI n - nI 1 → nI (n - 1) = nI n - nI 1) ∧ (¬ nI 0 < nI n - nI 1 → nI (n - 1) = nI 0) := by decide +kernel
theorem log_c {b n i gt sn : Nat} {g : Nat → Nat → Int32} {σ p0 p1 p2 p3 p4 p5 : Mem} {x0 y z : Int32} (h : LC b σ n g) (e0 : p0 = upd σ (b + (464 + n % 16 * 4)) x0) (e1 : p1 = upd p0 (b + (464 + (n % 16 * 4 + 1))) (nI i)) (e2 : p2 = upd p1 (b + (464 + (n % 16 * 4 + 2))) (nI gt)) (e3 : p3 = upd p2 (b + (464 + (n % 16 * 4 + 3))) (nI sn))
    (e4 : p4 = upd p3 (b + 7) y) (e5 : p5 = upd p4 (b + 8) z) : LC b p5 (n + 1) (pu g x0 (nI i) (nI gt) (nI sn)) := by
  have c : n % 16 * 4 = 4 * (n % 16) := Nat.mul_comm _ _
  rw [c] at e0 e1 e2 e3
  generalize hq : n % 16 = q at e0 e1 e2 e3
  have hq16 : q < 16 := by omega
  have f : ∀ a, b + 464 ≤ a → (a < b + 464 + 4 * q ∨ b + 464 + 4 * q + 4 ≤ a) → p5 a = σ a := fun a ha hb => by
    rw [e5, upd_ne (by omega), e4, upd_ne (by omega), e3, upd_ne (by omega), e2, upd_ne (by omega), e1, upd_ne (by omega), e0, upd_ne (by omega)]
  refine LC.push h ?_ ?_ ?_ ?_ (fun a ha hb hc => f a ha (by rw [hq] at hc; exact hc))
  · rw [hq, e5, upd_ne (by omega), e4, upd_ne (by omega), e3, upd_ne (by omega), e2, upd_ne (by omega), e1, upd_ne (by omega), show b + 464 + (4 * q) = b + (464 + 4 * q) from by omega, e0, upd_eq]
  · rw [hq, e5, upd_ne (by omega), e4, upd_ne (by omega), e3, upd_ne (by omega), e2, upd_ne (by omega), show b + 464 + (4 * q + 1) = b + (464 + (4 * q + 1)) from by omega, e1, upd_eq]
  · rw [hq, e5, upd_ne (by omega), e4, upd_ne (by omega), e3, upd_ne (by omega), show b + 464 + (4 * q + 2) = b + (464 + (4 * q + 2)) from by omega, e2, upd_eq]
  · rw [hq, e5, upd_ne (by omega), e4, upd_ne (by omega), show b + 464 + (4 * q + 3) = b + (464 + (4 * q + 3)) from by omega, e3, upd_eq]

set_option maxRecDepth 100000 in
set_option maxHeartbeats 4000000 in
theorem j_mx1 {l : Launch} {w : Wd} (hW : Wi w) {σ : Mem} (n : Nat) (hn : n < 100) : MC l w qJ9_max_7cf53 0 [.int (nI 0), .int (nI n - nI 1)] σ (some (.int (nI (n - 1)))) (fun σ' => σ' = σ) := by
  refine MC.ofF hW (by decide +kernel) (Nat.le_of_ble_eq_true rfl) (fun X h hQ hnm => ?_)
  have h : Fx X w cJ9_max_7cf53 2 RJ9 0 := h
  have hQ : Qx X w (some .int) (some (.int (nI (n - 1)))) (fun σ' => σ' = σ) := hQ
  show G X w 2 0 [(0, .int (nI 0)), (1, .int (nI n - nI 1))] [] σ
  refine g_iload_n h dJ9_max_7cf53_0 0 rfl ?_
  refine g_iload_n h dJ9_max_7cf53_1 1 rfl ?_
  refine g_icmp_lt h dJ9_max_7cf53_2 (fun c2 => ?_) (fun c2 => ?_)
  ·
    refine g_iload_n h dJ9_max_7cf53_9 1 rfl ?_
    exact g_iret h hQ dJ9_max_7cf53_10 (congrArg (fun z => some (Value.int z)) (show (nI (n - 1)) = (nI n - nI 1) by first | exact (mx_key n hn).1 c2 | exact (mx_key n hn).2 (Int32.not_lt.mpr c2) | exact (mx_key n hn).2 c2 | exact (mx_key n hn).1 (Int32.not_le.mp c2) | fail)) rfl
  ·
    refine g_iload_n h dJ9_max_7cf53_5 0 rfl ?_
    refine g_goto h dJ9_max_7cf53_6 ?_
    exact g_iret h hQ dJ9_max_7cf53_10 (congrArg (fun z => some (Value.int z)) (show (nI (n - 1)) = (nI 0) by first | exact (mx_key n hn).1 c2 | exact (mx_key n hn).2 (Int32.not_lt.mpr c2) | exact (mx_key n hn).2 c2 | exact (mx_key n hn).1 (Int32.not_le.mp c2) | fail)) rfl

set_option maxRecDepth 100000 in
set_option maxHeartbeats 4000000 in
theorem c_loses {l : Launch} {w : Wd} (hW : Wi w) {σ : Mem} (d ls : Nat) (lo : Int32) (hcCL_σ : CL σ d ls lo) : MC l w qX4_loses 0 [.ref (w.1 18)] σ (some (.int (b2i (lsB d ls)))) (fun σ' => (CL σ' (drw d) ls (lsN d ls lo)) ∧ (∀ a, (a < 14900 ∨ 14903 ≤ a) → σ' a = σ a)) := by
  refine MC.of hW (by decide +kernel) (Nat.le_of_ble_eq_true rfl) (fun X h hQ hnm => ?_)
  have h : Fx X w cX4_loses 2 RX4 0 := h
  have hQ : Qx X w (some .boolean) (some (.int (b2i (lsB d ls)))) (fun σ' => (CL σ' (drw d) ls (lsN d ls lo)) ∧ (∀ a, (a < 14900 ∨ 14903 ≤ a) → σ' a = σ a)) := hQ
  have hcFR_σ : ∀ a, (a < 14900 ∨ 14903 ≤ a) → σ a = σ a := fun _ _ => rfl
  show G X w 2 0 [(0, .ref (w.1 18))] [] σ
  rcases (show σ 14900 = nI d ∧ σ 14901 = nI ls ∧ σ 14902 = lo ∧ d < 243000 ∧ ls ≤ 16 from hcCL_σ) with ⟨hd, hl, hlo, hdd, hls⟩
  ·
    have hdl := drw_lt d
    show G X w 2 0 [(0, .ref (w.1 18))] [] σ
    refine g_aload_n h dX4_loses_0 0 rfl ?_
    refine g_aload_n h dX4_loses_1 0 rfl ?_
    refine g_geti h dX4_loses_2 gX4_13 sc_18 rfl ?_
    refine g_top (y := (nI d)) (by first | exact ht14900_σ | assumption) ?_
    refine g_sipush h dX4_loses_5 (by decide) ?_
    refine g_imulN h dX4_loses_8  ?_
    refine g_ldc h dX4_loses_9 kX4_19 ?_
    refine g_iaddN h dX4_loses_11  ?_
    refine g_ldc h dX4_loses_12 kX4_20 ?_
    refine g_iremN h dX4_loses_14 (by omega) (by omega) (by omega) ?_
    refine g_top (y := (nI (drw d))) rfl ?_
    refine g_puti h dX4_loses_15 pX4_13 sc_18 rfl ?_
    refine g_nm (fun σ_1 eσ_1 => ?_)
    have eσ_1 : σ_1 = upd σ 14900 (nI (drw d)) := eσ_1
    have ht14900_σ_1 : σ_1 14900 = (nI (drw d)) := by rw [eσ_1]; exact upd_eq
    have ht14901_σ_1 : σ_1 14901 = (nI ls) := by rw [eσ_1, upd_ne (by first | omega | (simp only [vb] at *; omega))]; first | exact ht14901_σ | assumption
    have ht14902_σ_1 : σ_1 14902 = lo := by rw [eσ_1, upd_ne (by first | omega | (simp only [vb] at *; omega))]; first | exact ht14902_σ | assumption
    have hcFR_σ_1 : ∀ a, (a < 14900 ∨ 14903 ≤ a) → σ_1 a = σ a := by intro a ha; exact Eq.trans (b := σ a) (by rw [eσ_1, upd_ne (by first | omega | (simp only [vb] at *; omega))]) (hcFR_σ a ha)
    refine g_aload_n h dX4_loses_18 0 rfl ?_
    refine g_geti h dX4_loses_19 gX4_13 sc_18 rfl ?_
    refine g_top (y := (nI (drw d))) (by first | exact ht14900_σ_1 | assumption) ?_
    refine g_bipush h dX4_loses_22 (by decide) ?_
    refine g_imulN h dX4_loses_24  ?_
    refine g_ldc h dX4_loses_25 kX4_20 ?_
    refine g_idivN h dX4_loses_27 (by omega) (by omega) (by omega) ?_
    refine g_aload_n h dX4_loses_28 0 rfl ?_
    refine g_geti h dX4_loses_29 gX4_16 sc_18 rfl ?_
    refine g_top (y := (nI ls)) (by first | exact ht14901_σ_1 | assumption) ?_
    refine g_icmpN_ge h dX4_loses_32 (by omega) (by omega) (fun c32 => ?_) (fun c32 => ?_)
    ·
      refine g_iconst h dX4_loses_39 (by decide) ?_
      refine g_istore_n (L' := [(0, .ref (w.1 18)), (1, .int (nI 0))]) h dX4_loses_40 rfl (by decide) rfl ?_
      refine g_iload_n h dX4_loses_41 1 rfl ?_
      refine g_ifN_eq h dX4_loses_42 (by decide) (fun c42 => ?_) (fun c42 => absurd c42 (by decide))
      refine g_iload_n h dX4_loses_55 1 rfl ?_
      exact g_zret h hQ dX4_loses_56 (show narrow .boolean (.int (b2i false)) = .int (b2i false) from narrow_b2i _) (congrArg (fun z => some (Value.int (b2i z))) (show (lsB d ls) = false by first | (simp [lsB, c32]; done) | (simp [lsB]; omega) | fail)) (by exact ⟨(by refine ⟨by assumption, by assumption, ?_, drw_lt d, hls⟩; unfold lsN lsB; first | (rw [if_pos (by simp; omega)]; assumption) | (rw [if_neg (by simp; omega)]; assumption)), (by exact hcFR_σ_1)⟩)
    ·
      refine g_iconst h dX4_loses_35 (by decide) ?_
      refine g_goto h dX4_loses_36 ?_
      refine g_istore_n (L' := [(0, .ref (w.1 18)), (1, .int (nI 1))]) h dX4_loses_40 rfl (by decide) rfl ?_
      refine g_iload_n h dX4_loses_41 1 rfl ?_
      refine g_ifN_eq h dX4_loses_42 (by decide) (fun c42 => absurd c42 (by decide)) (fun c42 => ?_)
      refine g_aload_n h dX4_loses_45 0 rfl ?_
      refine g_dup h dX4_loses_46 rfl ?_
      refine g_geti h dX4_loses_47 gX4_7 sc_18 rfl ?_
      refine g_top (y := lo) (by first | exact ht14902_σ_1 | assumption) ?_
      refine g_iconst h dX4_loses_50 (by decide) ?_
      refine g_iadd h dX4_loses_51  ?_
      refine g_puti h dX4_loses_52 pX4_7 sc_18 rfl ?_
      refine g_nm (fun σ_2 eσ_2 => ?_)
      have eσ_2 : σ_2 = upd σ_1 14902 (lo + (nI 1)) := eσ_2
      have ht14900_σ_2 : σ_2 14900 = (nI (drw d)) := by rw [eσ_2, upd_ne (by first | omega | (simp only [vb] at *; omega))]; first | exact ht14900_σ_1 | assumption
      have ht14901_σ_2 : σ_2 14901 = (nI ls) := by rw [eσ_2, upd_ne (by first | omega | (simp only [vb] at *; omega))]; first | exact ht14901_σ_1 | assumption
      have ht14902_σ_2 : σ_2 14902 = (lo + (nI 1)) := by rw [eσ_2]; exact upd_eq
      have hcFR_σ_2 : ∀ a, (a < 14900 ∨ 14903 ≤ a) → σ_2 a = σ a := by intro a ha; exact Eq.trans (b := σ_1 a) (by rw [eσ_2, upd_ne (by first | omega | (simp only [vb] at *; omega))]) (hcFR_σ_1 a ha)
      refine g_iload_n h dX4_loses_55 1 rfl ?_
      exact g_zret h hQ dX4_loses_56 (show narrow .boolean (.int (b2i true)) = .int (b2i true) from narrow_b2i _) (congrArg (fun z => some (Value.int (b2i z))) (show (lsB d ls) = true by first | (simp [lsB, c32]; done) | (simp [lsB]; omega) | fail)) (by exact ⟨(by refine ⟨by assumption, by assumption, ?_, drw_lt d, hls⟩; unfold lsN lsB; first | (rw [if_pos (by simp; omega)]; assumption) | (rw [if_neg (by simp; omega)]; assumption)), (by exact hcFR_σ_2)⟩)

set_option maxRecDepth 100000 in
set_option maxHeartbeats 4000000 in
theorem c_isOlder {l : Launch} {w : Wd} (hW : Wi w) {σ : Mem} (a b : Nat) (ha : a < 16) (hb : b < 16) : MC l w qX6_isOlder 0 [.int (nI a), .int (nI b)] σ (some (.int (b2i (oldB a b)))) (fun σ' => σ' = σ) := by
  refine MC.of hW (by decide +kernel) (Nat.le_of_ble_eq_true rfl) (fun X h hQ hnm => ?_)
  have h : Fx X w cX6_isOlder 3 RX6 0 := h
  have hQ : Qx X w (some .boolean) (some (.int (b2i (oldB a b)))) (fun σ' => σ' = σ) := hQ
  show G X w 3 0 [(0, .int (nI a)), (1, .int (nI b))] [] σ
  refine g_iload_n h dX6_isOlder_0 1 rfl ?_
  refine g_iload_n h dX6_isOlder_1 0 rfl ?_
  refine g_isub h dX6_isOlder_2  ?_
  refine g_bipush h dX6_isOlder_3 (by decide) ?_
  refine g_iadd h dX6_isOlder_5  ?_
  refine g_bipush h dX6_isOlder_6 (by decide) ?_
  refine g_irem h dX6_isOlder_8 (by decide) ?_
  refine g_top (y := (nI ((b + 16 - a) % 16))) (old_c a ha b hb) ?_
  refine g_istore_n (L' := [(0, .int (nI a)), (1, .int (nI b)), (2, .int (nI ((b + 16 - a) % 16)))]) h dX6_isOlder_9 rfl (by decide) rfl ?_
  refine g_iload_n h dX6_isOlder_10 2 rfl ?_
  refine g_iconst h dX6_isOlder_11 (by decide) ?_
  refine g_icmpN_lt h dX6_isOlder_12 (by omega) (by omega) (fun c12 => ?_) (fun c12 => ?_)
  ·
    refine g_iconst h dX6_isOlder_25 (by decide) ?_
    exact g_zret h hQ dX6_isOlder_26 (show narrow .boolean (.int (b2i false)) = .int (b2i false) from narrow_b2i _) (congrArg (fun z => some (Value.int (b2i z))) (show (oldB a b) = false by simp [oldB]; omega)) rfl
  ·
    refine g_iload_n h dX6_isOlder_15 2 rfl ?_
    refine g_bipush h dX6_isOlder_16 (by decide) ?_
    refine g_icmpN_gt h dX6_isOlder_18 (by omega) (by omega) (fun c18 => ?_) (fun c18 => ?_)
    ·
      refine g_iconst h dX6_isOlder_25 (by decide) ?_
      exact g_zret h hQ dX6_isOlder_26 (show narrow .boolean (.int (b2i false)) = .int (b2i false) from narrow_b2i _) (congrArg (fun z => some (Value.int (b2i z))) (show (oldB a b) = false by simp [oldB]; omega)) rfl
    ·
      refine g_iconst h dX6_isOlder_21 (by decide) ?_
      refine g_goto h dX6_isOlder_22 ?_
      exact g_zret h hQ dX6_isOlder_26 (show narrow .boolean (.int (b2i true)) = .int (b2i true) from narrow_b2i _) (congrArg (fun z => some (Value.int (b2i z))) (show (oldB a b) = true by simp [oldB]; omega)) rfl

set_option maxRecDepth 100000 in
set_option maxHeartbeats 4000000 in
theorem c_takeIn {l : Launch} {w : Wd} (hW : Wi w) {σ : Mem} (k n : Nat) (s : Int32) (m : Nat) (μ : Nat → Int32) (hm : m < 6) (hv : vw (vb m) σ = μ) (hI : MI μ) (hk : k < 64) (hn : n < 16) : MC l w qX6_takeIn 1 [.ref (w.1 (mc m 11)), .int (nI k), .int (nI n), .int s, .int (nI (nA μ 4))] σ (some (.int (b2i (tkB μ k n)))) (fun σ' => (vw (vb m) σ' = tkS μ k n s) ∧ (∀ a, (a < vb m ∨ vb m + 464 ≤ a) → σ' a = σ a)) := by
  refine MC.of hW (by decide +kernel) (Nat.le_of_ble_eq_true rfl) (fun X h hQ hnm => ?_)
  have h : Fx X w cX6_takeIn 5 RX6 1 := h
  have hQ : Qx X w (some .boolean) (some (.int (b2i (tkB μ k n)))) (fun σ' => (vw (vb m) σ' = tkS μ k n s) ∧ (∀ a, (a < vb m ∨ vb m + 464 ≤ a) → σ' a = σ a)) := hQ
  have hcFR_σ : ∀ a, (a < vb m ∨ vb m + 464 ≤ a) → σ a = σ a := fun _ _ => rfl
  show G X w 5 0 [(0, .ref (w.1 (mc m 11))), (1, .int (nI k)), (2, .int (nI n)), (3, .int s), (4, .int (nI (nA μ 4)))] [] σ
  refine g_aload_n h dX6_takeIn_0 0 rfl ?_
  refine g_getr h dX6_takeIn_1 gX6_18 (sM_11 (m := m) (by omega)) rfl ?_
  refine g_iload_n h dX6_takeIn_4 1 rfl ?_
  refine g_iald h dX6_takeIn_5 (sM_14 (m := m) (by omega)) (by omega) ?_
  refine g_top (y := μ (400 + k)) (vw_pic (b := (vb m)) (k := 400 + k) (by first | exact hv | assumption) (by omega)) ?_
  refine g_top (y := nI (nA μ (400 + k))) (mi_400 (by assumption) (by omega)) ?_
  have b9_5 : nA μ (400 + k) < 100 := mb_400 (by assumption) (by omega)
  refine g_ifN_le h dX6_takeIn_6 (by omega) (fun c6 => ?_) (fun c6 => ?_)
  ·
    refine g_aload_n h dX6_takeIn_34 0 rfl ?_
    refine g_getr h dX6_takeIn_35 gX6_9 (sM_11 (m := m) (by omega)) rfl ?_
    refine g_iload_n h dX6_takeIn_38 1 rfl ?_
    refine g_iload_n h dX6_takeIn_39 3 rfl ?_
    refine g_iast h dX6_takeIn_40 (sM_12 (m := m) (by omega)) (by omega) ?_
    refine g_nm (fun σ_1 eσ_1 => ?_)
    have eσ_1 : σ_1 = upd σ ((vb m) + (272 + k)) s := eσ_1
    have hcFR_σ_1 : ∀ a, (a < vb m ∨ vb m + 464 ≤ a) → σ_1 a = σ a := by intro a ha; exact Eq.trans (b := σ a) (by rw [eσ_1, upd_ne (by first | omega | (simp only [vb] at *; omega))]) (hcFR_σ a ha)
    obtain ⟨μ_2, eμ_2⟩ : ∃ μ_2 : Nat → Int32, μ_2 = upd μ (272 + k) s := ⟨_, rfl⟩
    have hvσ_1 : vw (vb m) σ_1 = μ_2 := by rw [eσ_1, eμ_2, vw_in (by omega)]; congr 1
    refine g_aload_n h dX6_takeIn_41 0 rfl ?_
    refine g_getr h dX6_takeIn_42 gX6_15 (sM_11 (m := m) (by omega)) rfl ?_
    refine g_iload_n h dX6_takeIn_45 1 rfl ?_
    refine g_iload_n h dX6_takeIn_46 2 rfl ?_
    refine g_iast h dX6_takeIn_47 (sM_13 (m := m) (by omega)) (by omega) ?_
    refine g_nm (fun σ_3 eσ_3 => ?_)
    have eσ_3 : σ_3 = upd σ_1 ((vb m) + (336 + k)) (nI n) := eσ_3
    have hcFR_σ_3 : ∀ a, (a < vb m ∨ vb m + 464 ≤ a) → σ_3 a = σ a := by intro a ha; exact Eq.trans (b := σ_1 a) (by rw [eσ_3, upd_ne (by first | omega | (simp only [vb] at *; omega))]) (hcFR_σ_1 a ha)
    obtain ⟨μ_4, eμ_4⟩ : ∃ μ_4 : Nat → Int32, μ_4 = upd μ_2 (336 + k) (nI n) := ⟨_, rfl⟩
    have hvσ_3 : vw (vb m) σ_3 = μ_4 := by rw [eσ_3, eμ_4, vw_in (by omega)]; congr 1
    refine g_aload_n h dX6_takeIn_48 0 rfl ?_
    refine g_getr h dX6_takeIn_49 gX6_18 (sM_11 (m := m) (by omega)) rfl ?_
    refine g_iload_n h dX6_takeIn_52 1 rfl ?_
    refine g_iload h dX6_takeIn_53 4 rfl ?_
    refine g_iast h dX6_takeIn_55 (sM_14 (m := m) (by omega)) (by omega) ?_
    refine g_nm (fun σ_5 eσ_5 => ?_)
    have eσ_5 : σ_5 = upd σ_3 ((vb m) + (400 + k)) (nI (nA μ 4)) := eσ_5
    have hcFR_σ_5 : ∀ a, (a < vb m ∨ vb m + 464 ≤ a) → σ_5 a = σ a := by intro a ha; exact Eq.trans (b := σ_3 a) (by rw [eσ_5, upd_ne (by first | omega | (simp only [vb] at *; omega))]) (hcFR_σ_3 a ha)
    obtain ⟨μ_6, eμ_6⟩ : ∃ μ_6 : Nat → Int32, μ_6 = upd μ_4 (400 + k) (nI (nA μ 4)) := ⟨_, rfl⟩
    have hvσ_5 : vw (vb m) σ_5 = μ_6 := by rw [eσ_5, eμ_6, vw_in (by omega)]; congr 1
    refine g_iconst h dX6_takeIn_56 (by decide) ?_
    exact g_zret h hQ dX6_takeIn_57 (show narrow .boolean (.int (b2i true)) = .int (b2i true) from narrow_b2i _) (congrArg (fun z => some (Value.int (b2i z))) (show (tkB μ k n) = true by first | (simp [tkB, c6]; done) | (simp [tkB, c6]; omega) | fail)) (by exact ⟨(by rw [hvσ_5]; simp [tkS, tkB, c6, eμ_6, eμ_4, eμ_2, Nat.pos_iff_ne_zero, ← mi_4 hI]; try omega), (by exact hcFR_σ_5)⟩)
  ·
    refine g_iload_n h dX6_takeIn_9 2 rfl ?_
    refine g_aload_n h dX6_takeIn_10 0 rfl ?_
    refine g_getr h dX6_takeIn_11 gX6_15 (sM_11 (m := m) (by omega)) rfl ?_
    refine g_iload_n h dX6_takeIn_14 1 rfl ?_
    refine g_iald h dX6_takeIn_15 (sM_13 (m := m) (by omega)) (by omega) ?_
    refine g_top (y := μ (336 + k)) (vw_pic (b := (vb m)) (k := 336 + k) (by first | exact hv | assumption) (by omega)) ?_
    refine g_top (y := nI (nA μ (336 + k))) (mi_336 (by assumption) (by omega)) ?_
    have b9_15 : nA μ (336 + k) < 16 := mb_336 (by assumption) (by omega)
    refine g_cspi (rest := []) h (c_isOlder hW n (nA μ (336 + k)) (by omega) (by omega)) lX6_isOlder mX6_52 (Nat.lt_of_lt_of_le (by decide) (Nat.le_refl _)) (by decide) rfl rfl rfl dX6_takeIn_16 ?_
    refine g_ifB_eq h dX6_takeIn_19 (fun c19 => ?_) (fun c19 => ?_)
    ·
      refine g_aload_n h dX6_takeIn_34 0 rfl ?_
      refine g_getr h dX6_takeIn_35 gX6_9 (sM_11 (m := m) (by omega)) rfl ?_
      refine g_iload_n h dX6_takeIn_38 1 rfl ?_
      refine g_iload_n h dX6_takeIn_39 3 rfl ?_
      refine g_iast h dX6_takeIn_40 (sM_12 (m := m) (by omega)) (by omega) ?_
      refine g_nm (fun σ_7 eσ_7 => ?_)
      have eσ_7 : σ_7 = upd σ ((vb m) + (272 + k)) s := eσ_7
      have hcFR_σ_7 : ∀ a, (a < vb m ∨ vb m + 464 ≤ a) → σ_7 a = σ a := by intro a ha; exact Eq.trans (b := σ a) (by rw [eσ_7, upd_ne (by first | omega | (simp only [vb] at *; omega))]) (hcFR_σ a ha)
      obtain ⟨μ_8, eμ_8⟩ : ∃ μ_8 : Nat → Int32, μ_8 = upd μ (272 + k) s := ⟨_, rfl⟩
      have hvσ_7 : vw (vb m) σ_7 = μ_8 := by rw [eσ_7, eμ_8, vw_in (by omega)]; congr 1
      refine g_aload_n h dX6_takeIn_41 0 rfl ?_
      refine g_getr h dX6_takeIn_42 gX6_15 (sM_11 (m := m) (by omega)) rfl ?_
      refine g_iload_n h dX6_takeIn_45 1 rfl ?_
      refine g_iload_n h dX6_takeIn_46 2 rfl ?_
      refine g_iast h dX6_takeIn_47 (sM_13 (m := m) (by omega)) (by omega) ?_
      refine g_nm (fun σ_9 eσ_9 => ?_)
      have eσ_9 : σ_9 = upd σ_7 ((vb m) + (336 + k)) (nI n) := eσ_9
      have hcFR_σ_9 : ∀ a, (a < vb m ∨ vb m + 464 ≤ a) → σ_9 a = σ a := by intro a ha; exact Eq.trans (b := σ_7 a) (by rw [eσ_9, upd_ne (by first | omega | (simp only [vb] at *; omega))]) (hcFR_σ_7 a ha)
      obtain ⟨μ_10, eμ_10⟩ : ∃ μ_10 : Nat → Int32, μ_10 = upd μ_8 (336 + k) (nI n) := ⟨_, rfl⟩
      have hvσ_9 : vw (vb m) σ_9 = μ_10 := by rw [eσ_9, eμ_10, vw_in (by omega)]; congr 1
      refine g_aload_n h dX6_takeIn_48 0 rfl ?_
      refine g_getr h dX6_takeIn_49 gX6_18 (sM_11 (m := m) (by omega)) rfl ?_
      refine g_iload_n h dX6_takeIn_52 1 rfl ?_
      refine g_iload h dX6_takeIn_53 4 rfl ?_
      refine g_iast h dX6_takeIn_55 (sM_14 (m := m) (by omega)) (by omega) ?_
      refine g_nm (fun σ_11 eσ_11 => ?_)
      have eσ_11 : σ_11 = upd σ_9 ((vb m) + (400 + k)) (nI (nA μ 4)) := eσ_11
      have hcFR_σ_11 : ∀ a, (a < vb m ∨ vb m + 464 ≤ a) → σ_11 a = σ a := by intro a ha; exact Eq.trans (b := σ_9 a) (by rw [eσ_11, upd_ne (by first | omega | (simp only [vb] at *; omega))]) (hcFR_σ_9 a ha)
      obtain ⟨μ_12, eμ_12⟩ : ∃ μ_12 : Nat → Int32, μ_12 = upd μ_10 (400 + k) (nI (nA μ 4)) := ⟨_, rfl⟩
      have hvσ_11 : vw (vb m) σ_11 = μ_12 := by rw [eσ_11, eμ_12, vw_in (by omega)]; congr 1
      refine g_iconst h dX6_takeIn_56 (by decide) ?_
      exact g_zret h hQ dX6_takeIn_57 (show narrow .boolean (.int (b2i true)) = .int (b2i true) from narrow_b2i _) (congrArg (fun z => some (Value.int (b2i z))) (show (tkB μ k n) = true by first | (simp [tkB, c6, c19]; done) | (simp [tkB, c6, c19]; omega) | fail)) (by exact ⟨(by rw [hvσ_11]; simp [tkS, tkB, c6, c19, eμ_12, eμ_10, eμ_8, Nat.pos_iff_ne_zero, ← mi_4 hI]; try omega), (by exact hcFR_σ_11)⟩)
    ·
      refine g_aload_n h dX6_takeIn_22 0 rfl ?_
      refine g_dup h dX6_takeIn_23 rfl ?_
      refine g_geti h dX6_takeIn_24 gX6_43 (sM_11 (m := m) (by omega)) rfl ?_
      refine g_top (y := μ 9) (vw_pic (b := (vb m)) (k := 9) (by first | exact hv | assumption) (by omega)) ?_
      refine g_iconst h dX6_takeIn_27 (by decide) ?_
      refine g_iadd h dX6_takeIn_28  ?_
      refine g_puti h dX6_takeIn_29 pX6_43 (sM_11 (m := m) (by omega)) rfl ?_
      refine g_nm (fun σ_13 eσ_13 => ?_)
      have eσ_13 : σ_13 = upd σ ((vb m) + 9) ((μ 9) + (nI 1)) := eσ_13
      have hcFR_σ_13 : ∀ a, (a < vb m ∨ vb m + 464 ≤ a) → σ_13 a = σ a := by intro a ha; exact Eq.trans (b := σ a) (by rw [eσ_13, upd_ne (by first | omega | (simp only [vb] at *; omega))]) (hcFR_σ a ha)
      obtain ⟨μ_14, eμ_14⟩ : ∃ μ_14 : Nat → Int32, μ_14 = upd μ 9 ((μ 9) + (nI 1)) := ⟨_, rfl⟩
      have hvσ_13 : vw (vb m) σ_13 = μ_14 := by rw [eσ_13, eμ_14, vw_in (by omega)]; congr 1
      refine g_iconst h dX6_takeIn_32 (by decide) ?_
      exact g_zret h hQ dX6_takeIn_33 (show narrow .boolean (.int (b2i false)) = .int (b2i false) from narrow_b2i _) (congrArg (fun z => some (Value.int (b2i z))) (show (tkB μ k n) = false by first | (simp [tkB, c6, c19]; done) | (simp [tkB, c6, c19]; omega) | fail)) (by exact ⟨(by rw [hvσ_13]; simp [tkS, tkB, c6, c19, eμ_14, Nat.pos_iff_ne_zero, ← mi_4 hI]; try omega), (by exact hcFR_σ_13)⟩)

set_option maxRecDepth 100000 in
set_option maxHeartbeats 4000000 in
theorem c_age {l : Launch} {w : Wd} (hW : Wi w) {σ : Mem} (i : Nat) (m : Nat) (μ : Nat → Int32) (hm : m < 6) (hv : vw (vb m) σ = μ) (hI : MI μ) (hi : i < 8) : MC l w qX6_age 1 [.ref (w.1 (mc m 11)), .int (nI i)] σ none (fun σ' => (vw (vb m) σ' = agP μ i 8) ∧ (∀ a, (a < vb m ∨ vb m + 464 ≤ a) → σ' a = σ a)) := by
  refine MC.of hW (by decide +kernel) (Nat.le_of_ble_eq_true rfl) (fun X h hQ hnm => ?_)
  have h : Fx X w cX6_age 4 RX6 1 := h
  have hQ : Qx X w none none (fun σ' => (vw (vb m) σ' = agP μ i 8) ∧ (∀ a, (a < vb m ∨ vb m + 464 ≤ a) → σ' a = σ a)) := hQ
  have hcFR_σ : ∀ a, (a < vb m ∨ vb m + 464 ≤ a) → σ a = σ a := fun _ _ => rfl
  show G X w 4 0 [(0, .ref (w.1 (mc m 11))), (1, .int (nI i))] [] σ
  refine g_iconst h dX6_age_0 (by decide) ?_
  refine g_istore_n (L' := [(0, .ref (w.1 (mc m 11))), (1, .int (nI i)), (2, .int (nI 0))]) h dX6_age_1 rfl (by decide) rfl ?_
  have lp2 : ∀ (k9 : Nat) (j : Nat) (τ : Mem), (j ≤ 8) → (vw (vb m) τ = agP μ i j) → (∀ a, (a < vb m ∨ vb m + 464 ≤ a) → τ a = σ a) → 8 - j < k9 → G X w 4 2 [(0, .ref (w.1 (mc m 11))), (1, .int (nI i)), (2, .int (nI j))] [] (τ) := by
    intro k9
    induction k9 with
    | zero => intro j τ hj hvτ hcFR_τ hm9; exact absurd hm9 (Nat.not_lt_zero _)
    | succ k9 ih2 =>
      intro j τ hj hvτ hcFR_τ hm2
      refine g_iload_n h dX6_age_2 2 rfl ?_
      refine g_bipush h dX6_age_3 (by decide) ?_
      refine g_icmpN_ge h dX6_age_5 (by omega) (by omega) (fun c5 => ?_) (fun c5 => ?_)
      ·
        exact g_vret h hQ dX6_age_38 rfl (by exact ⟨(by rw [hvτ, show j = 8 from by omega]), (by exact hcFR_τ)⟩)
      ·
        refine g_iload_n h dX6_age_8 1 rfl ?_
        refine g_iload_n h dX6_age_9 2 rfl ?_
        refine g_cspi (rest := []) h (c_at hW i j ) lX5_at mX6_56 (Nat.lt_of_lt_of_le (by decide) (Nat.le_refl _)) (by decide) rfl rfl rfl dX6_age_10 ?_
        refine g_istore_n (L' := [(0, .ref (w.1 (mc m 11))), (1, .int (nI i)), (2, .int (nI j)), (3, .int (nI (8 * i + j)))]) h dX6_age_13 rfl (by decide) rfl ?_
        have b9 := mb_400 hI (j := 8 * i + j) (by omega)
        refine g_aload_n h dX6_age_14 0 rfl ?_
        refine g_getr h dX6_age_15 gX6_18 (sM_11 (m := m) (by omega)) rfl ?_
        refine g_iload_n h dX6_age_18 3 rfl ?_
        refine g_iconst h dX6_age_19 (by decide) ?_
        refine g_aload_n h dX6_age_20 0 rfl ?_
        refine g_getr h dX6_age_21 gX6_18 (sM_11 (m := m) (by omega)) rfl ?_
        refine g_iload_n h dX6_age_24 3 rfl ?_
        refine g_iald h dX6_age_25 (sM_14 (m := m) (by omega)) (by omega) ?_
        refine g_top (y := agP μ i j (400 + (8 * i + j))) (vw_pic (b := (vb m)) (k := 400 + (8 * i + j)) (by first | exact hvτ | assumption) (by omega)) ?_
        refine g_top (y := (nI (nA μ (400 + (8 * i + j))))) (by rw [ag_at]; exact mi_400 hI (by omega)) ?_
        refine g_iconst h dX6_age_26 (by decide) ?_
        refine g_isub h dX6_age_27  ?_
        refine g_cspi (rest := [.int (nI (8 * i + j)), .ref (w.1 (mc m 14))]) h (j_mx1 hW (nA μ (400 + (8 * i + j))) (by omega)) lJ9_max_7cf53 mX6_62 (Nat.lt_of_lt_of_le (by decide) (Nat.le_refl _)) (by decide) rfl rfl rfl dX6_age_28 ?_
        refine g_iast h dX6_age_31 (sM_14 (m := m) (by omega)) (by omega) ?_
        refine g_nm (fun σ_1 eσ_1 => ?_)
        have eσ_1 : σ_1 = upd (τ) ((vb m) + (400 + (8 * i + j))) (nI ((nA μ (400 + (8 * i + j))) - 1)) := eσ_1
        have hcFR_σ_1 : ∀ a, (a < vb m ∨ vb m + 464 ≤ a) → σ_1 a = σ a := by intro a ha; exact Eq.trans (b := (τ) a) (by rw [eσ_1, upd_ne (by first | omega | (simp only [vb] at *; omega))]) (hcFR_τ a ha)
        obtain ⟨μ_2, eμ_2⟩ : ∃ μ_2 : Nat → Int32, μ_2 = upd (agP μ i j) (400 + (8 * i + j)) (nI ((nA μ (400 + (8 * i + j))) - 1)) := ⟨_, rfl⟩
        have hvσ_1 : vw (vb m) σ_1 = μ_2 := by rw [eσ_1, eμ_2, vw_in (by omega)]; congr 1
        refine g_iincN (b := 1) (L' := [(0, .ref (w.1 (mc m 11))), (1, .int (nI i)), (2, .int (nI (j + 1))), (3, .int (nI (8 * i + j)))]) h dX6_age_32 2 rfl rfl (by decide) (by decide) rfl ?_
        refine g_goto h dX6_age_35 ?_
        exact g_sub [0, 1, 2] rfl (ih2 (j + 1) σ_1 (by omega) (by rw [← ag_s, hvσ_1]; simp only [eμ_2]) (by first | exact hcFR_σ_1 | assumption | fail | fail) (by omega))
  exact lp2 (_) 0 σ (by omega) (by rw [ag_0]; assumption) (by first | exact hcFR_σ | assumption | fail | fail) (Nat.lt_succ_self _)

set_option maxRecDepth 100000 in
set_option maxHeartbeats 4000000 in
theorem c_renew {l : Launch} {w : Wd} (hW : Wi w) {σ : Mem} (i : Nat) (m : Nat) (μ : Nat → Int32) (hm : m < 6) (hv : vw (vb m) σ = μ) (hI : MI μ) (hi : i < 8) : MC l w qX6_renew 0 [.ref (w.1 (mc m 11)), .int (nI i), .int (μ (72 + i))] σ none (fun σ' => (vw (vb m) σ' = rnw μ i) ∧ (∀ a, (a < vb m ∨ vb m + 464 ≤ a) → σ' a = σ a)) := by
  refine MC.of hW (by decide +kernel) (Nat.le_of_ble_eq_true rfl) (fun X h hQ hnm => ?_)
  have h : Fx X w cX6_renew 3 RX6 0 := h
  have hQ : Qx X w none none (fun σ' => (vw (vb m) σ' = rnw μ i) ∧ (∀ a, (a < vb m ∨ vb m + 464 ≤ a) → σ' a = σ a)) := hQ
  have hcFR_σ : ∀ a, (a < vb m ∨ vb m + 464 ≤ a) → σ a = σ a := fun _ _ => rfl
  show G X w 3 0 [(0, .ref (w.1 (mc m 11))), (1, .int (nI i)), (2, .int (μ (72 + i)))] [] σ
  refine g_aload_n h dX6_renew_0 0 rfl ?_
  refine g_getr h dX6_renew_1 gX6_24 (sM_11 (m := m) (by omega)) rfl ?_
  refine g_iload_n h dX6_renew_4 1 rfl ?_
  refine g_iald h dX6_renew_5 (sM_16 (m := m) (by omega)) (by omega) ?_
  refine g_top (y := μ (40 + i)) (vw_pic (b := (vb m)) (k := 40 + i) (by first | exact hv | assumption) (by omega)) ?_
  refine g_iload_n h dX6_renew_6 2 rfl ?_
  refine g_icmp_eq h dX6_renew_7 (fun c7 => ?_) (fun c7 => ?_)
  ·
    exact g_vret h hQ dX6_renew_34 rfl (by exact ⟨(by first | (rw [hv]; exact (rnw_same hi c7).symm) | (rw [hv, Nat.add_zero]; exact rnw_new hi c7) | fail), (by exact hcFR_σ)⟩)
  ·
    refine g_aload_n h dX6_renew_10 0 rfl ?_
    refine g_getr h dX6_renew_11 gX6_24 (sM_11 (m := m) (by omega)) rfl ?_
    refine g_iload_n h dX6_renew_14 1 rfl ?_
    refine g_iload_n h dX6_renew_15 2 rfl ?_
    refine g_iast h dX6_renew_16 (sM_16 (m := m) (by omega)) (by omega) ?_
    refine g_nm (fun σ_1 eσ_1 => ?_)
    have eσ_1 : σ_1 = upd σ ((vb m) + (40 + i)) (μ (72 + i)) := eσ_1
    have hcFR_σ_1 : ∀ a, (a < vb m ∨ vb m + 464 ≤ a) → σ_1 a = σ a := by intro a ha; exact Eq.trans (b := σ a) (by rw [eσ_1, upd_ne (by first | omega | (simp only [vb] at *; omega))]) (hcFR_σ a ha)
    obtain ⟨μ_2, eμ_2⟩ : ∃ μ_2 : Nat → Int32, μ_2 = upd μ (40 + i) (μ (72 + i)) := ⟨_, rfl⟩
    have hvσ_1 : vw (vb m) σ_1 = μ_2 := by rw [eσ_1, eμ_2, vw_in (by omega)]; congr 1
    refine g_aload_n h dX6_renew_17 0 rfl ?_
    refine g_getr h dX6_renew_18 gX6_21 (sM_11 (m := m) (by omega)) rfl ?_
    refine g_iload_n h dX6_renew_21 1 rfl ?_
    refine g_aload_n h dX6_renew_22 0 rfl ?_
    refine g_getr h dX6_renew_23 gX6_21 (sM_11 (m := m) (by omega)) rfl ?_
    refine g_iload_n h dX6_renew_26 1 rfl ?_
    refine g_iald h dX6_renew_27 (sM_15 (m := m) (by omega)) (by omega) ?_
    refine g_top (y := μ_2 (32 + i)) (vw_pic (b := (vb m)) (k := 32 + i) (by first | exact hvσ_1 | assumption) (by omega)) ?_
    refine g_top (y := μ (32 + i)) (by rw [eμ_2, upd_ne (by first | omega | (simp only [vb] at *; omega))]) ?_
    refine g_top (y := nI (nA μ (32 + i))) (mi_32 (by assumption) (by omega)) ?_
    have b9_27 : nA μ (32 + i) < 16 := mb_32 (by assumption) (by omega)
    refine g_iconst h dX6_renew_28 (by decide) ?_
    refine g_iaddN h dX6_renew_29  ?_
    refine g_bipush h dX6_renew_30 (by decide) ?_
    refine g_iremN h dX6_renew_32 (by omega) (by omega) (by omega) ?_
    refine g_iast h dX6_renew_33 (sM_15 (m := m) (by omega)) (by omega) ?_
    refine g_nm (fun σ_3 eσ_3 => ?_)
    have eσ_3 : σ_3 = upd σ_1 ((vb m) + (32 + i)) (nI ((nA μ (32 + i) + 1) % 16)) := eσ_3
    have hcFR_σ_3 : ∀ a, (a < vb m ∨ vb m + 464 ≤ a) → σ_3 a = σ a := by intro a ha; exact Eq.trans (b := σ_1 a) (by rw [eσ_3, upd_ne (by first | omega | (simp only [vb] at *; omega))]) (hcFR_σ_1 a ha)
    obtain ⟨μ_4, eμ_4⟩ : ∃ μ_4 : Nat → Int32, μ_4 = upd μ_2 (32 + i) (nI ((nA μ (32 + i) + 1) % 16)) := ⟨_, rfl⟩
    have hvσ_3 : vw (vb m) σ_3 = μ_4 := by rw [eσ_3, eμ_4, vw_in (by omega)]; congr 1
    exact g_vret h hQ dX6_renew_34 rfl (by exact ⟨(by first | (rw [hvσ_3]; exact (rnw_same hi c7).symm) | (rw [hvσ_3, eμ_4, eμ_2]; exact rnw_new hi c7) | fail), (by exact hcFR_σ_3)⟩)

set_option maxRecDepth 100000 in
set_option maxHeartbeats 4000000 in
theorem c_write {l : Launch} {w : Wd} (hW : Wi w) {σ : Mem} (x0 : Int32) (i gt sn nt : Nat) (g : Nat → Nat → Int32) (m : Nat) (μ : Nat → Int32) (hm : m < 6) (hv : vw (vb m) σ = μ) (hI : MI μ) (h7 : μ 7 = nI nt) (hnt : nt < 2 ^ 30) (hcLC_σ : LC (vb m) σ nt g) : MC l w qX6_write 0 [.ref (w.1 (mc m 11)), .int x0, .int (nI i), .int (nI gt), .int (nI sn)] σ none (fun σ' => (vw (vb m) σ' = upd (upd μ 7 (μ 7 + nI 1)) 8 (μ 8 + nI sn)) ∧ (LC (vb m) σ' (nt + 1) (pu g x0 (nI i) (nI gt) (nI sn))) ∧ (∀ a, (a < vb m ∨ vb m + 528 ≤ a) → σ' a = σ a)) := by
  refine MC.of hW (by decide +kernel) (Nat.le_of_ble_eq_true rfl) (fun X h hQ hnm => ?_)
  have h : Fx X w cX6_write 6 RX6 0 := h
  have hQ : Qx X w none none (fun σ' => (vw (vb m) σ' = upd (upd μ 7 (μ 7 + nI 1)) 8 (μ 8 + nI sn)) ∧ (LC (vb m) σ' (nt + 1) (pu g x0 (nI i) (nI gt) (nI sn))) ∧ (∀ a, (a < vb m ∨ vb m + 528 ≤ a) → σ' a = σ a)) := hQ
  have hcFR_σ : ∀ a, (a < vb m ∨ vb m + 528 ≤ a) → σ a = σ a := fun _ _ => rfl
  show G X w 6 0 [(0, .ref (w.1 (mc m 11))), (1, .int x0), (2, .int (nI i)), (3, .int (nI gt)), (4, .int (nI sn))] [] σ
  refine g_aload_n h dX6_write_0 0 rfl ?_
  refine g_geti h dX6_write_1 gX6_36 (sM_11 (m := m) (by omega)) rfl ?_
  refine g_top (y := μ 7) (vw_pic (b := (vb m)) (k := 7) (by first | exact hv | assumption) (by omega)) ?_
  refine g_top (y := (nI nt)) h7 ?_
  refine g_bipush h dX6_write_4 (by decide) ?_
  refine g_iremN h dX6_write_6 (by omega) (by omega) (by omega) ?_
  refine g_iconst h dX6_write_7 (by decide) ?_
  refine g_imulN h dX6_write_8  ?_
  refine g_istore (L' := [(0, .ref (w.1 (mc m 11))), (1, .int x0), (2, .int (nI i)), (3, .int (nI gt)), (4, .int (nI sn)), (5, .int (nI ((nt % 16) * 4)))]) h dX6_write_9 rfl (by decide) rfl ?_
  refine g_aload_n h dX6_write_11 0 rfl ?_
  refine g_getr h dX6_write_12 gX6_27 (sM_11 (m := m) (by omega)) rfl ?_
  refine g_iload h dX6_write_15 5 rfl ?_
  refine g_iload_n h dX6_write_17 1 rfl ?_
  refine g_iast h dX6_write_18 (sM_17 (m := m) (by omega)) (by omega) ?_
  refine g_nm (fun σp0 eσp0 => ?_)
  have eσp0 : σp0 = upd σ ((vb m) + (464 + ((nt % 16) * 4))) x0 := eσp0
  have hcFR_σp0 : ∀ a, (a < vb m ∨ vb m + 528 ≤ a) → σp0 a = σ a := by intro a ha; exact Eq.trans (b := σ a) (by rw [eσp0, upd_ne (by first | omega | (simp only [vb] at *; omega))]) (hcFR_σ a ha)
  have hvσp0 : vw (vb m) σp0 = μ := by rw [eσp0, vw_out (by first | omega | (simp only [vb] at *; omega))]; first | exact hv | assumption
  refine g_aload_n h dX6_write_19 0 rfl ?_
  refine g_getr h dX6_write_20 gX6_27 (sM_11 (m := m) (by omega)) rfl ?_
  refine g_iload h dX6_write_23 5 rfl ?_
  refine g_iconst h dX6_write_25 (by decide) ?_
  refine g_iaddN h dX6_write_26  ?_
  refine g_iload_n h dX6_write_27 2 rfl ?_
  refine g_iast h dX6_write_28 (sM_17 (m := m) (by omega)) (by omega) ?_
  refine g_nm (fun σp1 eσp1 => ?_)
  have eσp1 : σp1 = upd σp0 ((vb m) + (464 + ((nt % 16) * 4 + 1))) (nI i) := eσp1
  have hcFR_σp1 : ∀ a, (a < vb m ∨ vb m + 528 ≤ a) → σp1 a = σ a := by intro a ha; exact Eq.trans (b := σp0 a) (by rw [eσp1, upd_ne (by first | omega | (simp only [vb] at *; omega))]) (hcFR_σp0 a ha)
  have hvσp1 : vw (vb m) σp1 = μ := by rw [eσp1, vw_out (by first | omega | (simp only [vb] at *; omega))]; first | exact hvσp0 | assumption
  refine g_aload_n h dX6_write_29 0 rfl ?_
  refine g_getr h dX6_write_30 gX6_27 (sM_11 (m := m) (by omega)) rfl ?_
  refine g_iload h dX6_write_33 5 rfl ?_
  refine g_iconst h dX6_write_35 (by decide) ?_
  refine g_iaddN h dX6_write_36  ?_
  refine g_iload_n h dX6_write_37 3 rfl ?_
  refine g_iast h dX6_write_38 (sM_17 (m := m) (by omega)) (by omega) ?_
  refine g_nm (fun σp2 eσp2 => ?_)
  have eσp2 : σp2 = upd σp1 ((vb m) + (464 + ((nt % 16) * 4 + 2))) (nI gt) := eσp2
  have hcFR_σp2 : ∀ a, (a < vb m ∨ vb m + 528 ≤ a) → σp2 a = σ a := by intro a ha; exact Eq.trans (b := σp1 a) (by rw [eσp2, upd_ne (by first | omega | (simp only [vb] at *; omega))]) (hcFR_σp1 a ha)
  have hvσp2 : vw (vb m) σp2 = μ := by rw [eσp2, vw_out (by first | omega | (simp only [vb] at *; omega))]; first | exact hvσp1 | assumption
  refine g_aload_n h dX6_write_39 0 rfl ?_
  refine g_getr h dX6_write_40 gX6_27 (sM_11 (m := m) (by omega)) rfl ?_
  refine g_iload h dX6_write_43 5 rfl ?_
  refine g_iconst h dX6_write_45 (by decide) ?_
  refine g_iaddN h dX6_write_46  ?_
  refine g_iload h dX6_write_47 4 rfl ?_
  refine g_iast h dX6_write_49 (sM_17 (m := m) (by omega)) (by omega) ?_
  refine g_nm (fun σp3 eσp3 => ?_)
  have eσp3 : σp3 = upd σp2 ((vb m) + (464 + ((nt % 16) * 4 + 3))) (nI sn) := eσp3
  have hcFR_σp3 : ∀ a, (a < vb m ∨ vb m + 528 ≤ a) → σp3 a = σ a := by intro a ha; exact Eq.trans (b := σp2 a) (by rw [eσp3, upd_ne (by first | omega | (simp only [vb] at *; omega))]) (hcFR_σp2 a ha)
  have hvσp3 : vw (vb m) σp3 = μ := by rw [eσp3, vw_out (by first | omega | (simp only [vb] at *; omega))]; first | exact hvσp2 | assumption
  refine g_aload_n h dX6_write_50 0 rfl ?_
  refine g_dup h dX6_write_51 rfl ?_
  refine g_geti h dX6_write_52 gX6_36 (sM_11 (m := m) (by omega)) rfl ?_
  refine g_top (y := μ 7) (vw_pic (b := (vb m)) (k := 7) (by first | exact hvσp3 | assumption) (by omega)) ?_
  refine g_iconst h dX6_write_55 (by decide) ?_
  refine g_iadd h dX6_write_56  ?_
  refine g_puti h dX6_write_57 pX6_36 (sM_11 (m := m) (by omega)) rfl ?_
  refine g_nm (fun σp4 eσp4 => ?_)
  have eσp4 : σp4 = upd σp3 ((vb m) + 7) ((μ 7) + (nI 1)) := eσp4
  have hcFR_σp4 : ∀ a, (a < vb m ∨ vb m + 528 ≤ a) → σp4 a = σ a := by intro a ha; exact Eq.trans (b := σp3 a) (by rw [eσp4, upd_ne (by first | omega | (simp only [vb] at *; omega))]) (hcFR_σp3 a ha)
  obtain ⟨μ1, eμ1⟩ : ∃ μ1 : Nat → Int32, μ1 = upd μ 7 ((μ 7) + (nI 1)) := ⟨_, rfl⟩
  have hvσp4 : vw (vb m) σp4 = μ1 := by rw [eσp4, eμ1, vw_in (by omega)]; congr 1
  refine g_aload_n h dX6_write_60 0 rfl ?_
  refine g_dup h dX6_write_61 rfl ?_
  refine g_geti h dX6_write_62 gX6_40 (sM_11 (m := m) (by omega)) rfl ?_
  refine g_top (y := μ1 8) (vw_pic (b := (vb m)) (k := 8) (by first | exact hvσp4 | assumption) (by omega)) ?_
  refine g_top (y := μ 8) (by rw [eμ1, upd_ne (by first | omega | (simp only [vb] at *; omega))]) ?_
  refine g_iload h dX6_write_65 4 rfl ?_
  refine g_iadd h dX6_write_67  ?_
  refine g_puti h dX6_write_68 pX6_40 (sM_11 (m := m) (by omega)) rfl ?_
  refine g_nm (fun σp5 eσp5 => ?_)
  have eσp5 : σp5 = upd σp4 ((vb m) + 8) ((μ 8) + (nI sn)) := eσp5
  have hcFR_σp5 : ∀ a, (a < vb m ∨ vb m + 528 ≤ a) → σp5 a = σ a := by intro a ha; exact Eq.trans (b := σp4 a) (by rw [eσp5, upd_ne (by first | omega | (simp only [vb] at *; omega))]) (hcFR_σp4 a ha)
  obtain ⟨μ2, eμ2⟩ : ∃ μ2 : Nat → Int32, μ2 = upd μ1 8 ((μ 8) + (nI sn)) := ⟨_, rfl⟩
  have hvσp5 : vw (vb m) σp5 = μ2 := by rw [eσp5, eμ2, vw_in (by omega)]; congr 1
  exact g_vret h hQ dX6_write_71 rfl (by exact ⟨(by rw [hvσp5, eμ2, eμ1]), (by exact log_c hcLC_σ eσp0 eσp1 eσp2 eσp3 eσp4 eσp5), (by exact hcFR_σp5)⟩)

set_option maxRecDepth 100000 in
set_option maxHeartbeats 4000000 in
theorem c_easeJams {l : Launch} {w : Wd} (hW : Wi w) {σ : Mem} (m : Nat) (μ : Nat → Int32) (hm : m < 6) (hv : vw (vb m) σ = μ) (hI : MI μ) : MC l w qX5_easeJams 1 [.ref (w.1 (mc m 0))] σ none (fun σ' => (vw (vb m) σ' = esP μ 64) ∧ (∀ a, (a < vb m ∨ vb m + 464 ≤ a) → σ' a = σ a)) := by
  refine MC.of hW (by decide +kernel) (Nat.le_of_ble_eq_true rfl) (fun X h hQ hnm => ?_)
  have h : Fx X w cX5_easeJams 2 RX5 1 := h
  have hQ : Qx X w none none (fun σ' => (vw (vb m) σ' = esP μ 64) ∧ (∀ a, (a < vb m ∨ vb m + 464 ≤ a) → σ' a = σ a)) := hQ
  have hcFR_σ : ∀ a, (a < vb m ∨ vb m + 464 ≤ a) → σ a = σ a := fun _ _ => rfl
  show G X w 2 0 [(0, .ref (w.1 (mc m 0)))] [] σ
  refine g_iconst h dX5_easeJams_0 (by decide) ?_
  refine g_istore_n (L' := [(0, .ref (w.1 (mc m 0))), (1, .int (nI 0))]) h dX5_easeJams_1 rfl (by decide) rfl ?_
  have lp2 : ∀ (k9 : Nat) (j : Nat) (τ : Mem), (j ≤ 64) → (vw (vb m) τ = esC μ j) → (∀ a, (a < vb m ∨ vb m + 464 ≤ a) → τ a = σ a) → 64 - j < k9 → G X w 2 2 [(0, .ref (w.1 (mc m 0))), (1, .int (nI j))] [] (τ) := by
    intro k9
    induction k9 with
    | zero => intro j τ hj hvτ hcFR_τ hm9; exact absurd hm9 (Nat.not_lt_zero _)
    | succ k9 ih2 =>
      intro j τ hj hvτ hcFR_τ hm2
      refine g_iload_n h dX5_easeJams_2 1 rfl ?_
      refine g_bipush h dX5_easeJams_3 (by decide) ?_
      refine g_icmpN_ge h dX5_easeJams_5 (by omega) (by omega) (fun c5 => ?_) (fun c5 => ?_)
      ·
        exact g_vret h hQ dX5_easeJams_32 rfl (by exact ⟨(by rw [hvτ, show j = 64 from by omega]; exact ec_end μ), (by exact hcFR_τ)⟩)
      ·
        have b9 := mb_208 hI (j := tr j) (tr_lt (by omega))
        have b8 := tr_lt (c := j) (by omega)
        refine g_aload_n h dX5_easeJams_8 0 rfl ?_
        refine g_getr h dX5_easeJams_9 gX5_18 (sM_0 (m := m) (by omega)) rfl ?_
        refine g_iload_n h dX5_easeJams_12 1 rfl ?_
        refine g_iconst h dX5_easeJams_13 (by decide) ?_
        refine g_aload_n h dX5_easeJams_14 0 rfl ?_
        refine g_getr h dX5_easeJams_15 gX5_18 (sM_0 (m := m) (by omega)) rfl ?_
        refine g_iload_n h dX5_easeJams_18 1 rfl ?_
        refine g_iald h dX5_easeJams_19 (sM_3 (m := m) (by omega)) (by omega) ?_
        refine g_top (y := esC μ j (208 + tr j)) (vw_pic (b := (vb m)) (k := 208 + tr j) (by first | exact hvτ | assumption) (by omega)) ?_
        refine g_top (y := (nI (nA μ (208 + tr j)))) (by rw [ec_at (by omega)]; exact mi_208 hI (tr_lt (by omega))) ?_
        refine g_iconst h dX5_easeJams_20 (by decide) ?_
        refine g_isub h dX5_easeJams_21  ?_
        refine g_cspi (rest := [.int (nI j), .ref (w.1 (mc m 3))]) h (j_mx1 hW (nA μ (208 + tr j)) (by omega)) lJ9_max_7cf53 mX5_97 (Nat.lt_of_lt_of_le (by decide) (Nat.le_refl _)) (by decide) rfl rfl rfl dX5_easeJams_22 ?_
        refine g_iast h dX5_easeJams_25 (sM_3 (m := m) (by omega)) (by omega) ?_
        refine g_nm (fun σ_1 eσ_1 => ?_)
        have eσ_1 : σ_1 = upd (τ) ((vb m) + (208 + tr j)) (nI ((nA μ (208 + tr j)) - 1)) := eσ_1
        have hcFR_σ_1 : ∀ a, (a < vb m ∨ vb m + 464 ≤ a) → σ_1 a = σ a := by intro a ha; exact Eq.trans (b := (τ) a) (by rw [eσ_1, upd_ne (by first | omega | (simp only [vb] at *; omega))]) (hcFR_τ a ha)
        obtain ⟨μ_2, eμ_2⟩ : ∃ μ_2 : Nat → Int32, μ_2 = upd (esC μ j) (208 + tr j) (nI ((nA μ (208 + tr j)) - 1)) := ⟨_, rfl⟩
        have hvσ_1 : vw (vb m) σ_1 = μ_2 := by rw [eσ_1, eμ_2, vw_in (by omega)]; congr 1
        refine g_iincN (b := 1) (L' := [(0, .ref (w.1 (mc m 0))), (1, .int (nI (j + 1)))]) h dX5_easeJams_26 1 rfl rfl (by decide) (by decide) rfl ?_
        refine g_goto h dX5_easeJams_29 ?_
        exact ih2 (j + 1) σ_1 (by omega) (by rw [← ec_s (by omega), hvσ_1]; simp only [eμ_2]) (by first | exact hcFR_σ_1 | assumption | fail | fail) (by omega)
  exact lp2 (_) 0 σ (by omega) (by rw [ec_0]; assumption) (by first | exact hcFR_σ | assumption | fail | fail) (Nat.lt_succ_self _)

set_option maxRecDepth 100000 in
set_option maxHeartbeats 4000000 in
theorem c_prove {l : Launch} {w : Wd} (hW : Wi w) {σ : Mem} (i j : Nat) (hd : Bool) (m : Nat) (μ : Nat → Int32) (hm : m < 6) (hv : vw (vb m) σ = μ) (hI : MI μ) (hi : i < 8) (hj : j < 8) : MC l w qX9_prove 1 [.ref (w.1 19), .ref (w.1 (mc m 0)), .int (nI i), .int (nI j), .int (b2i hd)] σ none (fun σ' => (vw (vb m) σ' = prP μ i j hd) ∧ (∀ a, (a < vb m ∨ vb m + 464 ≤ a) → σ' a = σ a)) := by
  refine MC.of hW (by decide +kernel) (Nat.le_of_ble_eq_true rfl) (fun X h hQ hnm => ?_)
  have h : Fx X w cX9_prove 9 RX9 1 := h
  have hQ : Qx X w none none (fun σ' => (vw (vb m) σ' = prP μ i j hd) ∧ (∀ a, (a < vb m ∨ vb m + 464 ≤ a) → σ' a = σ a)) := hQ
  have hcFR_σ : ∀ a, (a < vb m ∨ vb m + 464 ≤ a) → σ a = σ a := fun _ _ => rfl
  show G X w 9 0 [(0, .ref (w.1 19)), (1, .ref (w.1 (mc m 0))), (2, .int (nI i)), (3, .int (nI j)), (4, .int (b2i hd))] [] σ
  refine g_aload_n h dX9_prove_0 1 rfl ?_
  refine g_getr h dX9_prove_1 gX9_35 (sM_0 (m := m) (by omega)) rfl ?_
  refine g_astore (L' := [(0, .ref (w.1 19)), (1, .ref (w.1 (mc m 0))), (2, .int (nI i)), (3, .int (nI j)), (4, .int (b2i hd)), (5, .ref (w.1 (mc m 4)))]) h dX9_prove_4 rfl (by decide) rfl ?_
  refine g_iload_n h dX9_prove_6 2 rfl ?_
  refine g_iload_n h dX9_prove_7 3 rfl ?_
  refine g_cspi (rest := []) h (c_at hW i j ) lX5_at mX9_114 (Nat.lt_of_lt_of_le (by decide) (Nat.le_refl _)) (by decide) rfl rfl rfl dX9_prove_8 ?_
  refine g_istore (L' := [(0, .ref (w.1 19)), (1, .ref (w.1 (mc m 0))), (2, .int (nI i)), (3, .int (nI j)), (4, .int (b2i hd)), (5, .ref (w.1 (mc m 4))), (6, .int (nI (8 * i + j)))]) h dX9_prove_11 rfl (by decide) rfl ?_
  refine g_aload h dX9_prove_13 5 rfl ?_
  refine g_getr h dX9_prove_15 gX9_118 (sM_4 (m := m) (by omega)) rfl ?_
  refine g_iload h dX9_prove_18 6 rfl ?_
  refine g_iald h dX9_prove_20 (sM_5 (m := m) (by omega)) (by omega) ?_
  refine g_top (y := μ (80 + (8 * i + j))) (vw_pic (b := (vb m)) (k := 80 + (8 * i + j)) (by first | exact hv | assumption) (by omega)) ?_
  refine g_top (y := nI (nA μ (80 + (8 * i + j)))) (mi_80 (by assumption) (by omega)) ?_
  have b9_20 : nA μ (80 + (8 * i + j)) < 1000 := mb_80 (by assumption) (by omega)
  refine g_iload h dX9_prove_21 4 rfl ?_
  refine g_cspi (rest := []) h (c_quality hW (nA μ (80 + (8 * i + j))) hd (by omega)) lX3_qualityAfter mX9_121 (Nat.lt_of_lt_of_le (by decide) (Nat.le_refl _)) (by decide) rfl rfl rfl dX9_prove_23 ?_
  have b9 := prv_lt (h := hd) (mb_80 hI (j := 8 * i + j) (by omega))
  refine g_istore (L' := [(0, .ref (w.1 19)), (1, .ref (w.1 (mc m 0))), (2, .int (nI i)), (3, .int (nI j)), (4, .int (b2i hd)), (5, .ref (w.1 (mc m 4))), (6, .int (nI (8 * i + j))), (7, .int (nI (prv (nA μ (80 + (8 * i + j))) hd)))]) h dX9_prove_26 rfl (by decide) rfl ?_
  refine g_aload_n h dX9_prove_28 1 rfl ?_
  refine g_iload h dX9_prove_29 7 rfl ?_
  refine g_aload h dX9_prove_31 5 rfl ?_
  refine g_getr h dX9_prove_33 gX9_84 (sM_4 (m := m) (by omega)) rfl ?_
  refine g_iload_n h dX9_prove_36 2 rfl ?_
  refine g_iald h dX9_prove_37 (sM_7 (m := m) (by omega)) (by omega) ?_
  refine g_top (y := μ (56 + i)) (vw_pic (b := (vb m)) (k := 56 + i) (by first | exact hv | assumption) (by omega)) ?_
  refine g_iload_n h dX9_prove_38 3 rfl ?_
  refine g_cspi (rest := [.int (nI (prv (nA μ (80 + (8 * i + j))) hd)), .ref (w.1 (mc m 0))]) h (c_has hW (μ (56 + i)) j (by omega)) lX5_has mX9_125 (Nat.lt_of_lt_of_le (by decide) (Nat.le_refl _)) (by decide) rfl rfl rfl dX9_prove_39 ?_
  refine g_cvpi (rest := []) h (c_isUpAt hW (prv (nA μ (80 + (8 * i + j))) hd) (tb (μ (56 + i)) j) m μ (by first | omega | decide | fail) (by first | exact hv | assumption | fail) (by assumption) (by omega)) lX5_isUpAt mX9_128 (Nat.lt_of_lt_of_le (by decide) (Nat.le_refl _)) (by decide) (sM_0 (m := m) (by omega)) rfl rfl rfl rfl dX9_prove_42 ?_
  refine g_istore (L' := [(0, .ref (w.1 19)), (1, .ref (w.1 (mc m 0))), (2, .int (nI i)), (3, .int (nI j)), (4, .int (b2i hd)), (5, .ref (w.1 (mc m 4))), (6, .int (nI (8 * i + j))), (7, .int (nI (prv (nA μ (80 + (8 * i + j))) hd))), (8, .int (b2i (isU μ (prv (nA μ (80 + (8 * i + j))) hd) (tb (μ (56 + i)) j))))]) h dX9_prove_45 rfl (by decide) rfl ?_
  refine g_aload h dX9_prove_47 5 rfl ?_
  refine g_getr h dX9_prove_49 gX9_118 (sM_4 (m := m) (by omega)) rfl ?_
  refine g_iload h dX9_prove_52 6 rfl ?_
  refine g_iload h dX9_prove_54 7 rfl ?_
  refine g_iast h dX9_prove_56 (sM_5 (m := m) (by omega)) (by omega) ?_
  refine g_nm (fun σ_1 eσ_1 => ?_)
  have eσ_1 : σ_1 = upd σ ((vb m) + (80 + (8 * i + j))) (nI (prv (nA μ (80 + (8 * i + j))) hd)) := eσ_1
  have hcFR_σ_1 : ∀ a, (a < vb m ∨ vb m + 464 ≤ a) → σ_1 a = σ a := by intro a ha; exact Eq.trans (b := σ a) (by rw [eσ_1, upd_ne (by first | omega | (simp only [vb] at *; omega))]) (hcFR_σ a ha)
  obtain ⟨μ_2, eμ_2⟩ : ∃ μ_2 : Nat → Int32, μ_2 = upd μ (80 + (8 * i + j)) (nI (prv (nA μ (80 + (8 * i + j))) hd)) := ⟨_, rfl⟩
  have hvσ_1 : vw (vb m) σ_1 = μ_2 := by rw [eσ_1, eμ_2, vw_in (by omega)]; congr 1
  refine g_aload h dX9_prove_57 5 rfl ?_
  refine g_getr h dX9_prove_59 gX9_84 (sM_4 (m := m) (by omega)) rfl ?_
  refine g_iload_n h dX9_prove_62 2 rfl ?_
  refine g_aload h dX9_prove_63 5 rfl ?_
  refine g_getr h dX9_prove_65 gX9_84 (sM_4 (m := m) (by omega)) rfl ?_
  refine g_iload_n h dX9_prove_68 2 rfl ?_
  refine g_iald h dX9_prove_69 (sM_7 (m := m) (by omega)) (by omega) ?_
  refine g_top (y := μ_2 (56 + i)) (vw_pic (b := (vb m)) (k := 56 + i) (by first | exact hvσ_1 | assumption) (by omega)) ?_
  refine g_top (y := μ (56 + i)) (by rw [eμ_2, upd_ne (by first | omega | (simp only [vb] at *; omega))]) ?_
  refine g_iload_n h dX9_prove_70 3 rfl ?_
  refine g_iload h dX9_prove_71 8 rfl ?_
  refine g_cspi (rest := [.int (nI i), .ref (w.1 (mc m 7))]) h (c_with hW (μ (56 + i)) j (isU μ (prv (nA μ (80 + (8 * i + j))) hd) (tb (μ (56 + i)) j)) ) lX5_with mX9_132 (Nat.lt_of_lt_of_le (by decide) (Nat.le_refl _)) (by decide) rfl rfl rfl dX9_prove_73 ?_
  refine g_iast h dX9_prove_76 (sM_7 (m := m) (by omega)) (by omega) ?_
  refine g_nm (fun σ_3 eσ_3 => ?_)
  have eσ_3 : σ_3 = upd σ_1 ((vb m) + (56 + i)) (wth (μ (56 + i)) j (isU μ (prv (nA μ (80 + (8 * i + j))) hd) (tb (μ (56 + i)) j))) := eσ_3
  have hcFR_σ_3 : ∀ a, (a < vb m ∨ vb m + 464 ≤ a) → σ_3 a = σ a := by intro a ha; exact Eq.trans (b := σ_1 a) (by rw [eσ_3, upd_ne (by first | omega | (simp only [vb] at *; omega))]) (hcFR_σ_1 a ha)
  obtain ⟨μ_4, eμ_4⟩ : ∃ μ_4 : Nat → Int32, μ_4 = upd μ_2 (56 + i) (wth (μ (56 + i)) j (isU μ (prv (nA μ (80 + (8 * i + j))) hd) (tb (μ (56 + i)) j))) := ⟨_, rfl⟩
  have hvσ_3 : vw (vb m) σ_3 = μ_4 := by rw [eσ_3, eμ_4, vw_in (by omega)]; congr 1
  exact g_vret h hQ dX9_prove_77 rfl (by exact ⟨(by rw [hvσ_3, eμ_4, eμ_2]; rfl), (by exact hcFR_σ_3)⟩)

set_option maxRecDepth 100000 in
set_option maxHeartbeats 4000000 in
theorem c_learn {l : Launch} {w : Wd} (hW : Wi w) {σ : Mem} (i j : Nat) (hd : Bool) (μh : Nat → Int32) (m : Nat) (μ : Nat → Int32) (hm : m < 6) (hv : vw (vb m) σ = μ) (hi : i < 8) (hj : j < 8) (hcHT_σ : HT 15110 μh σ) : MC l w qX9_learn 1 [.ref (w.1 19), .ref (w.1 (mc m 4)), .int (nI i), .int (nI j), .int (b2i hd)] σ none (fun σ' => (vw (vb m) σ' = leP μh μ i j hd) ∧ (HT 15110 μh σ') ∧ (∀ a, (a < vb m ∨ vb m + 464 ≤ a) → σ' a = σ a)) := by
  refine MC.of hW (by decide +kernel) (Nat.le_of_ble_eq_true rfl) (fun X h hQ hnm => ?_)
  have h : Fx X w cX9_learn 10 RX9 1 := h
  have hQ : Qx X w none none (fun σ' => (vw (vb m) σ' = leP μh μ i j hd) ∧ (HT 15110 μh σ') ∧ (∀ a, (a < vb m ∨ vb m + 464 ≤ a) → σ' a = σ a)) := hQ
  have hcFR_σ : ∀ a, (a < vb m ∨ vb m + 464 ≤ a) → σ a = σ a := fun _ _ => rfl
  show G X w 10 0 [(0, .ref (w.1 19)), (1, .ref (w.1 (mc m 4))), (2, .int (nI i)), (3, .int (nI j)), (4, .int (b2i hd))] [] σ
  refine g_iload_n h dX9_learn_0 2 rfl ?_
  refine g_iload_n h dX9_learn_1 3 rfl ?_
  refine g_cspi (rest := []) h (c_at hW i j ) lX5_at mX9_114 (Nat.lt_of_lt_of_le (by decide) (Nat.le_refl _)) (by decide) rfl rfl rfl dX9_learn_2 ?_
  refine g_istore (L' := [(0, .ref (w.1 19)), (1, .ref (w.1 (mc m 4))), (2, .int (nI i)), (3, .int (nI j)), (4, .int (b2i hd)), (5, .int (nI (8 * i + j)))]) h dX9_learn_5 rfl (by decide) rfl ?_
  have J35 : ∀ (sd : Bool), (sd = if hd = true then tb (μh (56 + j)) i else tb (μ (64 + i)) j) → G X w 10 35 [(0, .ref (w.1 19)), (1, .ref (w.1 (mc m 4))), (2, .int (nI i)), (3, .int (nI j)), (4, .int (b2i hd)), (5, .int (nI (8 * i + j)))] [.int (b2i sd)] σ := by
    intro sd hsd
    refine g_istore (L' := [(0, .ref (w.1 19)), (1, .ref (w.1 (mc m 4))), (2, .int (nI i)), (3, .int (nI j)), (4, .int (b2i hd)), (5, .int (nI (8 * i + j))), (6, .int (b2i sd))]) h dX9_learn_35 rfl (by decide) rfl ?_
    have J60 : ∀ (nr : Bool), (nr = leN μh μ i j hd) → G X w 10 60 [(0, .ref (w.1 19)), (1, .ref (w.1 (mc m 4))), (2, .int (nI i)), (3, .int (nI j)), (4, .int (b2i hd)), (5, .int (nI (8 * i + j))), (6, .int (b2i sd))] [.int (b2i nr)] σ := by
      intro nr hnr
      refine g_istore (L' := [(0, .ref (w.1 19)), (1, .ref (w.1 (mc m 4))), (2, .int (nI i)), (3, .int (nI j)), (4, .int (b2i hd)), (5, .int (nI (8 * i + j))), (6, .int (b2i sd)), (7, .int (b2i nr))]) h dX9_learn_60 rfl (by decide) rfl ?_
      have J90 : ∀ (ch : Bool), (ch = if hd = true then tb (μh (48 + j)) i else tb (μ (72 + i)) j) → G X w 10 90 [(0, .ref (w.1 19)), (1, .ref (w.1 (mc m 4))), (2, .int (nI i)), (3, .int (nI j)), (4, .int (b2i hd)), (5, .int (nI (8 * i + j))), (6, .int (b2i sd)), (7, .int (b2i nr))] [.int (b2i ch)] σ := by
        intro ch hch
        refine g_istore (L' := [(0, .ref (w.1 19)), (1, .ref (w.1 (mc m 4))), (2, .int (nI i)), (3, .int (nI j)), (4, .int (b2i hd)), (5, .int (nI (8 * i + j))), (6, .int (b2i sd)), (7, .int (b2i nr)), (8, .int (b2i ch))]) h dX9_learn_90 rfl (by decide) rfl ?_
        have J113 : ∀ (kn : Int32), (kn = if hd = true then μh (64 + j) else μ (144 + (8 * i + j))) → G X w 10 113 [(0, .ref (w.1 19)), (1, .ref (w.1 (mc m 4))), (2, .int (nI i)), (3, .int (nI j)), (4, .int (b2i hd)), (5, .int (nI (8 * i + j))), (6, .int (b2i sd)), (7, .int (b2i nr)), (8, .int (b2i ch))] [.int kn] σ := by
          intro kn hkn
          refine g_istore (L' := [(0, .ref (w.1 19)), (1, .ref (w.1 (mc m 4))), (2, .int (nI i)), (3, .int (nI j)), (4, .int (b2i hd)), (5, .int (nI (8 * i + j))), (6, .int (b2i sd)), (7, .int (b2i nr)), (8, .int (b2i ch)), (9, .int kn)]) h dX9_learn_113 rfl (by decide) rfl ?_
          refine g_aload_n h dX9_learn_115 1 rfl ?_
          refine g_getr h dX9_learn_116 gX9_93 (sM_4 (m := m) (by omega)) rfl ?_
          refine g_iload_n h dX9_learn_119 2 rfl ?_
          refine g_aload_n h dX9_learn_120 1 rfl ?_
          refine g_getr h dX9_learn_121 gX9_93 (sM_4 (m := m) (by omega)) rfl ?_
          refine g_iload_n h dX9_learn_124 2 rfl ?_
          refine g_iald h dX9_learn_125 (sM_8 (m := m) (by omega)) (by omega) ?_
          refine g_top (y := μ (64 + i)) (vw_pic (b := (vb m)) (k := 64 + i) (by first | exact hv | assumption) (by omega)) ?_
          refine g_iload_n h dX9_learn_126 3 rfl ?_
          refine g_iload h dX9_learn_127 7 rfl ?_
          refine g_cspi (rest := [.int (nI i), .ref (w.1 (mc m 8))]) h (c_with hW (μ (64 + i)) j nr ) lX5_with mX9_132 (Nat.lt_of_lt_of_le (by decide) (Nat.le_refl _)) (by decide) rfl rfl rfl dX9_learn_129 ?_
          refine g_iast h dX9_learn_132 (sM_8 (m := m) (by omega)) (by omega) ?_
          refine g_nm (fun σ_1 eσ_1 => ?_)
          have eσ_1 : σ_1 = upd σ ((vb m) + (64 + i)) (wth (μ (64 + i)) j nr) := eσ_1
          have hcHT_σ_1 : HT 15110 μh σ_1 := by rw [eσ_1]; exact HT.fr hcHT_σ (fun a ha hb => upd_ne (by first | omega | (simp only [vb] at *; omega)))
          have hcFR_σ_1 : ∀ a, (a < vb m ∨ vb m + 464 ≤ a) → σ_1 a = σ a := by intro a ha; exact Eq.trans (b := σ a) (by rw [eσ_1, upd_ne (by first | omega | (simp only [vb] at *; omega))]) (hcFR_σ a ha)
          obtain ⟨μ_2, eμ_2⟩ : ∃ μ_2 : Nat → Int32, μ_2 = upd μ (64 + i) (wth (μ (64 + i)) j nr) := ⟨_, rfl⟩
          have hvσ_1 : vw (vb m) σ_1 = μ_2 := by rw [eσ_1, eμ_2, vw_in (by omega)]; congr 1
          refine g_aload_n h dX9_learn_133 1 rfl ?_
          refine g_getr h dX9_learn_134 gX9_136 (sM_4 (m := m) (by omega)) rfl ?_
          refine g_iload_n h dX9_learn_137 2 rfl ?_
          refine g_aload_n h dX9_learn_138 1 rfl ?_
          refine g_getr h dX9_learn_139 gX9_136 (sM_4 (m := m) (by omega)) rfl ?_
          refine g_iload_n h dX9_learn_142 2 rfl ?_
          refine g_iald h dX9_learn_143 (sM_9 (m := m) (by omega)) (by omega) ?_
          refine g_top (y := μ_2 (72 + i)) (vw_pic (b := (vb m)) (k := 72 + i) (by first | exact hvσ_1 | assumption) (by omega)) ?_
          refine g_top (y := μ (72 + i)) (by rw [eμ_2, upd_ne (by first | omega | (simp only [vb] at *; omega))]) ?_
          refine g_iload_n h dX9_learn_144 3 rfl ?_
          refine g_iload h dX9_learn_145 7 rfl ?_
          refine g_ifB_eq h dX9_learn_147 (fun c147 => ?_) (fun c147 => ?_)
          ·
            refine g_iconst h dX9_learn_159 (by decide) ?_
            refine g_cspi (rest := [.int (nI i), .ref (w.1 (mc m 9))]) h (c_with hW (μ (72 + i)) j false ) lX5_with mX9_132 (Nat.lt_of_lt_of_le (by decide) (Nat.le_refl _)) (by decide) rfl rfl rfl dX9_learn_160 ?_
            refine g_iast h dX9_learn_163 (sM_9 (m := m) (by omega)) (by omega) ?_
            refine g_nm (fun σ_3 eσ_3 => ?_)
            have eσ_3 : σ_3 = upd σ_1 ((vb m) + (72 + i)) (wth (μ (72 + i)) j false) := eσ_3
            have hcHT_σ_3 : HT 15110 μh σ_3 := by rw [eσ_3]; exact HT.fr hcHT_σ_1 (fun a ha hb => upd_ne (by first | omega | (simp only [vb] at *; omega)))
            have hcFR_σ_3 : ∀ a, (a < vb m ∨ vb m + 464 ≤ a) → σ_3 a = σ a := by intro a ha; exact Eq.trans (b := σ_1 a) (by rw [eσ_3, upd_ne (by first | omega | (simp only [vb] at *; omega))]) (hcFR_σ_1 a ha)
            obtain ⟨μ_4, eμ_4⟩ : ∃ μ_4 : Nat → Int32, μ_4 = upd μ_2 (72 + i) (wth (μ (72 + i)) j false) := ⟨_, rfl⟩
            have hvσ_3 : vw (vb m) σ_3 = μ_4 := by rw [eσ_3, eμ_4, vw_in (by omega)]; congr 1
            refine g_aload_n h dX9_learn_164 1 rfl ?_
            refine g_getr h dX9_learn_165 gX9_139 (sM_4 (m := m) (by omega)) rfl ?_
            refine g_iload h dX9_learn_168 5 rfl ?_
            refine g_iload h dX9_learn_170 7 rfl ?_
            refine g_ifB_eq h dX9_learn_172 (fun c172 => ?_) (fun c172 => absurd (c147.symm.trans c172) (by decide))
            refine g_iconst h dX9_learn_180 (by decide) ?_
            refine g_iast h dX9_learn_181 (sM_6 (m := m) (by omega)) (by omega) ?_
            refine g_nm (fun σ_5 eσ_5 => ?_)
            have eσ_5 : σ_5 = upd σ_3 ((vb m) + (144 + (8 * i + j))) (nI 0) := eσ_5
            have hcHT_σ_5 : HT 15110 μh σ_5 := by rw [eσ_5]; exact HT.fr hcHT_σ_3 (fun a ha hb => upd_ne (by first | omega | (simp only [vb] at *; omega)))
            have hcFR_σ_5 : ∀ a, (a < vb m ∨ vb m + 464 ≤ a) → σ_5 a = σ a := by intro a ha; exact Eq.trans (b := σ_3 a) (by rw [eσ_5, upd_ne (by first | omega | (simp only [vb] at *; omega))]) (hcFR_σ_3 a ha)
            obtain ⟨μ_6, eμ_6⟩ : ∃ μ_6 : Nat → Int32, μ_6 = upd μ_4 (144 + (8 * i + j)) (nI 0) := ⟨_, rfl⟩
            have hvσ_5 : vw (vb m) σ_5 = μ_6 := by rw [eσ_5, eμ_6, vw_in (by omega)]; congr 1
            exact g_vret h hQ dX9_learn_182 rfl (by exact ⟨(by rw [hvσ_5]; simp only [eμ_6, eμ_4, eμ_2]; unfold leP; rw [← hnr, ← hch, ← hkn]; simp [c147]), (by first | exact hcHT_σ_5 | assumption | fail), (by exact hcFR_σ_5)⟩)
          ·
            refine g_iload h dX9_learn_150 8 rfl ?_
            refine g_ifB_eq h dX9_learn_152 (fun c152 => ?_) (fun c152 => ?_)
            ·
              refine g_iconst h dX9_learn_159 (by decide) ?_
              refine g_cspi (rest := [.int (nI i), .ref (w.1 (mc m 9))]) h (c_with hW (μ (72 + i)) j false ) lX5_with mX9_132 (Nat.lt_of_lt_of_le (by decide) (Nat.le_refl _)) (by decide) rfl rfl rfl dX9_learn_160 ?_
              refine g_iast h dX9_learn_163 (sM_9 (m := m) (by omega)) (by omega) ?_
              refine g_nm (fun σ_7 eσ_7 => ?_)
              have eσ_7 : σ_7 = upd σ_1 ((vb m) + (72 + i)) (wth (μ (72 + i)) j false) := eσ_7
              have hcHT_σ_7 : HT 15110 μh σ_7 := by rw [eσ_7]; exact HT.fr hcHT_σ_1 (fun a ha hb => upd_ne (by first | omega | (simp only [vb] at *; omega)))
              have hcFR_σ_7 : ∀ a, (a < vb m ∨ vb m + 464 ≤ a) → σ_7 a = σ a := by intro a ha; exact Eq.trans (b := σ_1 a) (by rw [eσ_7, upd_ne (by first | omega | (simp only [vb] at *; omega))]) (hcFR_σ_1 a ha)
              obtain ⟨μ_8, eμ_8⟩ : ∃ μ_8 : Nat → Int32, μ_8 = upd μ_2 (72 + i) (wth (μ (72 + i)) j false) := ⟨_, rfl⟩
              have hvσ_7 : vw (vb m) σ_7 = μ_8 := by rw [eσ_7, eμ_8, vw_in (by omega)]; congr 1
              refine g_aload_n h dX9_learn_164 1 rfl ?_
              refine g_getr h dX9_learn_165 gX9_139 (sM_4 (m := m) (by omega)) rfl ?_
              refine g_iload h dX9_learn_168 5 rfl ?_
              refine g_iload h dX9_learn_170 7 rfl ?_
              refine g_ifB_eq h dX9_learn_172 (fun c172 => absurd (c147.symm.trans c172) (by decide)) (fun c172 => ?_)
              refine g_iload h dX9_learn_175 9 rfl ?_
              refine g_goto h dX9_learn_177 ?_
              refine g_iast h dX9_learn_181 (sM_6 (m := m) (by omega)) (by omega) ?_
              refine g_nm (fun σ_9 eσ_9 => ?_)
              have eσ_9 : σ_9 = upd σ_7 ((vb m) + (144 + (8 * i + j))) kn := eσ_9
              have hcHT_σ_9 : HT 15110 μh σ_9 := by rw [eσ_9]; exact HT.fr hcHT_σ_7 (fun a ha hb => upd_ne (by first | omega | (simp only [vb] at *; omega)))
              have hcFR_σ_9 : ∀ a, (a < vb m ∨ vb m + 464 ≤ a) → σ_9 a = σ a := by intro a ha; exact Eq.trans (b := σ_7 a) (by rw [eσ_9, upd_ne (by first | omega | (simp only [vb] at *; omega))]) (hcFR_σ_7 a ha)
              obtain ⟨μ_10, eμ_10⟩ : ∃ μ_10 : Nat → Int32, μ_10 = upd μ_8 (144 + (8 * i + j)) kn := ⟨_, rfl⟩
              have hvσ_9 : vw (vb m) σ_9 = μ_10 := by rw [eσ_9, eμ_10, vw_in (by omega)]; congr 1
              exact g_vret h hQ dX9_learn_182 rfl (by exact ⟨(by rw [hvσ_9]; simp only [eμ_10, eμ_8, eμ_2]; unfold leP; rw [← hnr, ← hch, ← hkn]; simp [c147, c152]), (by first | exact hcHT_σ_9 | assumption | fail), (by exact hcFR_σ_9)⟩)
            ·
              refine g_iconst h dX9_learn_155 (by decide) ?_
              refine g_goto h dX9_learn_156 ?_
              refine g_cspi (rest := [.int (nI i), .ref (w.1 (mc m 9))]) h (c_with hW (μ (72 + i)) j true ) lX5_with mX9_132 (Nat.lt_of_lt_of_le (by decide) (Nat.le_refl _)) (by decide) rfl rfl rfl dX9_learn_160 ?_
              refine g_iast h dX9_learn_163 (sM_9 (m := m) (by omega)) (by omega) ?_
              refine g_nm (fun σ_11 eσ_11 => ?_)
              have eσ_11 : σ_11 = upd σ_1 ((vb m) + (72 + i)) (wth (μ (72 + i)) j true) := eσ_11
              have hcHT_σ_11 : HT 15110 μh σ_11 := by rw [eσ_11]; exact HT.fr hcHT_σ_1 (fun a ha hb => upd_ne (by first | omega | (simp only [vb] at *; omega)))
              have hcFR_σ_11 : ∀ a, (a < vb m ∨ vb m + 464 ≤ a) → σ_11 a = σ a := by intro a ha; exact Eq.trans (b := σ_1 a) (by rw [eσ_11, upd_ne (by first | omega | (simp only [vb] at *; omega))]) (hcFR_σ_1 a ha)
              obtain ⟨μ_12, eμ_12⟩ : ∃ μ_12 : Nat → Int32, μ_12 = upd μ_2 (72 + i) (wth (μ (72 + i)) j true) := ⟨_, rfl⟩
              have hvσ_11 : vw (vb m) σ_11 = μ_12 := by rw [eσ_11, eμ_12, vw_in (by omega)]; congr 1
              refine g_aload_n h dX9_learn_164 1 rfl ?_
              refine g_getr h dX9_learn_165 gX9_139 (sM_4 (m := m) (by omega)) rfl ?_
              refine g_iload h dX9_learn_168 5 rfl ?_
              refine g_iload h dX9_learn_170 7 rfl ?_
              refine g_ifB_eq h dX9_learn_172 (fun c172 => absurd (c147.symm.trans c172) (by decide)) (fun c172 => ?_)
              refine g_iload h dX9_learn_175 9 rfl ?_
              refine g_goto h dX9_learn_177 ?_
              refine g_iast h dX9_learn_181 (sM_6 (m := m) (by omega)) (by omega) ?_
              refine g_nm (fun σ_13 eσ_13 => ?_)
              have eσ_13 : σ_13 = upd σ_11 ((vb m) + (144 + (8 * i + j))) kn := eσ_13
              have hcHT_σ_13 : HT 15110 μh σ_13 := by rw [eσ_13]; exact HT.fr hcHT_σ_11 (fun a ha hb => upd_ne (by first | omega | (simp only [vb] at *; omega)))
              have hcFR_σ_13 : ∀ a, (a < vb m ∨ vb m + 464 ≤ a) → σ_13 a = σ a := by intro a ha; exact Eq.trans (b := σ_11 a) (by rw [eσ_13, upd_ne (by first | omega | (simp only [vb] at *; omega))]) (hcFR_σ_11 a ha)
              obtain ⟨μ_14, eμ_14⟩ : ∃ μ_14 : Nat → Int32, μ_14 = upd μ_12 (144 + (8 * i + j)) kn := ⟨_, rfl⟩
              have hvσ_13 : vw (vb m) σ_13 = μ_14 := by rw [eσ_13, eμ_14, vw_in (by omega)]; congr 1
              exact g_vret h hQ dX9_learn_182 rfl (by exact ⟨(by rw [hvσ_13]; simp only [eμ_14, eμ_12, eμ_2]; unfold leP; rw [← hnr, ← hch, ← hkn]; simp [c147, c152]), (by first | exact hcHT_σ_13 | assumption | fail), (by exact hcFR_σ_13)⟩)
        refine g_iload h dX9_learn_92 4 rfl ?_
        refine g_ifB_eq h dX9_learn_94 (fun c94 => ?_) (fun c94 => ?_)
        ·
          refine g_aload_n h dX9_learn_106 1 rfl ?_
          refine g_getr h dX9_learn_107 gX9_139 (sM_4 (m := m) (by omega)) rfl ?_
          refine g_iload h dX9_learn_110 5 rfl ?_
          refine g_iald h dX9_learn_112 (sM_6 (m := m) (by omega)) (by omega) ?_
          refine g_top (y := μ (144 + (8 * i + j))) (vw_pic (b := (vb m)) (k := 144 + (8 * i + j)) (by first | exact hv | assumption) (by omega)) ?_
          exact J113 (μ (144 + (8 * i + j))) (by simp [c94])
        ·
          refine g_aload_n h dX9_learn_97 0 rfl ?_
          refine g_getr h dX9_learn_98 gX9_23 sc_19 rfl ?_
          refine g_iload_n h dX9_learn_101 3 rfl ?_
          refine g_iald h dX9_learn_102 sc_21 (by omega) ?_
          refine g_top (y := (μh (64 + j))) (by rw [show 15120 + j = 15110 + 10 + j from rfl]; exact (hcHT_σ j hj).2.1) ?_
          refine g_goto h dX9_learn_103 ?_
          exact J113 (μh (64 + j)) (by simp [c94])
      refine g_iload h dX9_learn_62 4 rfl ?_
      refine g_ifB_eq h dX9_learn_64 (fun c64 => ?_) (fun c64 => ?_)
      ·
        refine g_aload_n h dX9_learn_80 1 rfl ?_
        refine g_getr h dX9_learn_81 gX9_136 (sM_4 (m := m) (by omega)) rfl ?_
        refine g_iload_n h dX9_learn_84 2 rfl ?_
        refine g_iald h dX9_learn_85 (sM_9 (m := m) (by omega)) (by omega) ?_
        refine g_top (y := μ (72 + i)) (vw_pic (b := (vb m)) (k := 72 + i) (by first | exact hv | assumption) (by omega)) ?_
        refine g_iload_n h dX9_learn_86 3 rfl ?_
        refine g_cspi (rest := []) h (c_has hW (μ (72 + i)) j (by omega)) lX5_has mX9_125 (Nat.lt_of_lt_of_le (by decide) (Nat.le_refl _)) (by decide) rfl rfl rfl dX9_learn_87 ?_
        exact J90 (tb (μ (72 + i)) j) (by simp [c64])
      ·
        refine g_aload_n h dX9_learn_67 0 rfl ?_
        refine g_getr h dX9_learn_68 gX9_26 sc_19 rfl ?_
        refine g_iload_n h dX9_learn_71 3 rfl ?_
        refine g_iald h dX9_learn_72 sc_22 (by omega) ?_
        refine g_top (y := (μh (48 + j))) (by rw [show 15130 + j = 15110 + 20 + j from rfl]; exact (hcHT_σ j hj).2.2) ?_
        refine g_iload_n h dX9_learn_73 2 rfl ?_
        refine g_cspi (rest := []) h (c_has hW (μh (48 + j)) i (by omega)) lX5_has mX9_125 (Nat.lt_of_lt_of_le (by decide) (Nat.le_refl _)) (by decide) rfl rfl rfl dX9_learn_74 ?_
        refine g_goto h dX9_learn_77 ?_
        exact J90 (tb (μh (48 + j)) i) (by simp [c64])
    refine g_iload h dX9_learn_37 6 rfl ?_
    refine g_ifB_eq h dX9_learn_39 (fun c39 => ?_) (fun c39 => ?_)
    ·
      refine g_iconst h dX9_learn_59 (by decide) ?_
      exact J60 false (by simp [leN, ← hsd, c39])
    ·
      refine g_aload_n h dX9_learn_42 1 rfl ?_
      refine g_getr h dX9_learn_43 gX9_84 (sM_4 (m := m) (by omega)) rfl ?_
      refine g_iload_n h dX9_learn_46 2 rfl ?_
      refine g_iald h dX9_learn_47 (sM_7 (m := m) (by omega)) (by omega) ?_
      refine g_top (y := μ (56 + i)) (vw_pic (b := (vb m)) (k := 56 + i) (by first | exact hv | assumption) (by omega)) ?_
      refine g_iload_n h dX9_learn_48 3 rfl ?_
      refine g_cspi (rest := []) h (c_has hW (μ (56 + i)) j (by omega)) lX5_has mX9_125 (Nat.lt_of_lt_of_le (by decide) (Nat.le_refl _)) (by decide) rfl rfl rfl dX9_learn_49 ?_
      refine g_ifB_eq h dX9_learn_52 (fun c52 => ?_) (fun c52 => ?_)
      ·
        refine g_iconst h dX9_learn_59 (by decide) ?_
        exact J60 false (by simp [leN, ← hsd, c39, c52])
      ·
        refine g_iconst h dX9_learn_55 (by decide) ?_
        refine g_goto h dX9_learn_56 ?_
        exact J60 true (by simp [leN, ← hsd, c39, c52])
  refine g_iload h dX9_learn_7 4 rfl ?_
  refine g_ifB_eq h dX9_learn_9 (fun c9 => ?_) (fun c9 => ?_)
  ·
    refine g_aload_n h dX9_learn_25 1 rfl ?_
    refine g_getr h dX9_learn_26 gX9_93 (sM_4 (m := m) (by omega)) rfl ?_
    refine g_iload_n h dX9_learn_29 2 rfl ?_
    refine g_iald h dX9_learn_30 (sM_8 (m := m) (by omega)) (by omega) ?_
    refine g_top (y := μ (64 + i)) (vw_pic (b := (vb m)) (k := 64 + i) (by first | exact hv | assumption) (by omega)) ?_
    refine g_iload_n h dX9_learn_31 3 rfl ?_
    refine g_cspi (rest := []) h (c_has hW (μ (64 + i)) j (by omega)) lX5_has mX9_125 (Nat.lt_of_lt_of_le (by decide) (Nat.le_refl _)) (by decide) rfl rfl rfl dX9_learn_32 ?_
    exact J35 (tb (μ (64 + i)) j) (by simp [c9])
  ·
    refine g_aload_n h dX9_learn_12 0 rfl ?_
    refine g_getr h dX9_learn_13 gX9_19 sc_19 rfl ?_
    refine g_iload_n h dX9_learn_16 3 rfl ?_
    refine g_iald h dX9_learn_17 sc_20 (by omega) ?_
    refine g_top (y := (μh (56 + j))) ((hcHT_σ j hj).1) ?_
    refine g_iload_n h dX9_learn_18 2 rfl ?_
    refine g_cspi (rest := []) h (c_has hW (μh (56 + j)) i (by omega)) lX5_has mX9_125 (Nat.lt_of_lt_of_le (by decide) (Nat.le_refl _)) (by decide) rfl rfl rfl dX9_learn_19 ?_
    refine g_goto h dX9_learn_22 ?_
    exact J35 (tb (μh (56 + j)) i) (by simp [c9])
