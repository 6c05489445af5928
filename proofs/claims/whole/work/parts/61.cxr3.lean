/-! the class's line, read, load, the tape -/
def TC (σ : Mem) (b5 b6 : Bool) : Prop := tb (σ 15006) 6 = b5 ∧ tb (σ 15006) 7 = b6
theorem TC.fr {σ σ' : Mem} {b5 b6 : Bool} (h : TC σ b5 b6) (f : σ' 15006 = σ 15006) : TC σ' b5 b6 := ⟨by rw [f]; exact h.1, by rw [f]; exact h.2⟩
theorem tc_0 {σ : Mem} (h : σ 15006 = nI 0) : TC σ false false := ⟨by rw [h]; exact tb_n0 _, by rw [h]; exact tb_n0 _⟩
theorem tc_s {σ σ' : Mem} {b5 b6 : Bool} {k : Nat} (h : TC σ b5 b6) (hk : k < 8) (e : σ' = upd σ 15006 (wth (σ 15006) (k + 1) true)) : TC σ' (b5 || decide (k = 5)) (b6 || decide (k = 6)) := by
  have e2 : σ' 15006 = wth (σ 15006) (k + 1) true := by rw [e]; exact upd_eq
  refine ⟨?_, ?_⟩
  · rw [e2, tb_wth (by omega) (by omega), h.1]
    by_cases c : k = 5
    · rw [if_pos (by omega), decide_eq_true c, Bool.or_true]
    · rw [if_neg (by omega), decide_eq_false c, Bool.or_false]
  · rw [e2, tb_wth (by omega) (by omega), h.2]
    by_cases c : k = 6
    · rw [if_pos (by omega), decide_eq_true c, Bool.or_true]
    · rw [if_neg (by omega), decide_eq_false c, Bool.or_false]
theorem tc_y {σ : Mem} {b5 b6 : Bool} {k : Nat} (h : TC σ b5 b6) (hk : k = 5 ∨ k = 6) (c : tb (σ 15006) (k + 1) = true) : told9 b5 b6 k = true := by
  unfold told9
  rcases hk with rfl | rfl
  · rw [← h.1, c]; rfl
  · rw [← h.2, c]; cases b5 <;> rfl
theorem tc_n {σ : Mem} {b5 b6 : Bool} {k : Nat} (h : TC σ b5 b6) (hk : k = 5 ∨ k = 6) (c : tb (σ 15006) (k + 1) = false) : ¬ told9 b5 b6 k = true := by
  unfold told9
  rcases hk with rfl | rfl
  · rw [← h.1, c]; simp
  · rw [← h.2, c]; cases b5 <;> simp
def aI (x : Nat → Nat) (L e i : Nat) : Nat := if i = 0 then 0 else txV x L e
def arp (x : Nat → Nat) (L : Nat) (μ : Nat → Int32) (k e : Nat) (s : Nat × Nat) : Nat → Nat × Nat
  | 0 => s
  | i + 1 => if (arp x L μ k e s i).1 = 0 then (if af9 x L μ k i (aI x L e i) (arp x L μ k e s i).2 = 0 then (0, txE x L (arp x L μ k e s i).2) else (af9 x L μ k i (aI x L e i) (arp x L μ k e s i).2, (arp x L μ k e s i).2)) else arp x L μ k e s i
def st9 (b5 b6 : Bool) (k : Nat) (x : Nat → Nat) (L e : Nat) : Nat × Nat := if told9 b5 b6 k = true then (5, e) else (0, txE x L e)
section AR
variable {x : Nat → Nat} {L e k : Nat} {μ : Nat → Int32} {s : Nat × Nat}
theorem arp_y {i : Nat} (h : (arp x L μ k e s i).1 = 0) : arp x L μ k e s (i + 1) = if af9 x L μ k i (aI x L e i) (arp x L μ k e s i).2 = 0 then (0, txE x L (arp x L μ k e s i).2) else (af9 x L μ k i (aI x L e i) (arp x L μ k e s i).2, (arp x L μ k e s i).2) := if_pos h
theorem arp_n {i : Nat} (h : (arp x L μ k e s i).1 ≠ 0) : arp x L μ k e s (i + 1) = arp x L μ k e s i := if_neg h
theorem arp_p {i : Nat} (h : (arp x L μ k e s (i + 1)).1 = 0) : (arp x L μ k e s i).1 = 0 ∧ af9 x L μ k i (aI x L e i) (arp x L μ k e s i).2 = 0 ∧ arp x L μ k e s (i + 1) = (0, txE x L (arp x L μ k e s i).2) := by
  by_cases c : (arp x L μ k e s i).1 = 0
  · rw [arp_y c] at h ⊢
    by_cases c2 : af9 x L μ k i (aI x L e i) (arp x L μ k e s i).2 = 0
    · rw [if_pos c2]
      exact ⟨c, c2, rfl⟩
    · rw [if_neg c2] at h
      exact absurd h c2
  · rw [arp_n c] at h
    exact absurd h c
theorem arp_s {i : Nat} {p0 : Int32} (h : (arp x L μ k e s i).1 = 0) : (arp x L μ k e s (i + 1)).1 = af9 x L μ k i (aI x L e i) (arp x L μ k e s i).2 ∧ (if (arp x L μ k e s (i + 1)).1 = 0 then (arp x L μ k e s (i + 1)).2 else txE x L (arp x L μ k e s (i + 1)).2) = txE x L (arp x L μ k e s i).2 ∧ (if (arp x L μ k e s (i + 1)).1 = 0 then p0 else nI (txS x L (arp x L μ k e s (i + 1)).2)) = (if af9 x L μ k i (aI x L e i) (arp x L μ k e s i).2 = 0 then p0 else nI (txS x L (arp x L μ k e s i).2)) := by
  rw [arp_y h]
  by_cases c : af9 x L μ k i (aI x L e i) (arp x L μ k e s i).2 = 0
  · rw [if_pos c, c]
    exact ⟨rfl, rfl, rfl⟩
  · rw [if_neg c]
    exact ⟨rfl, if_neg c, rfl⟩
theorem arp_0 : ∀ i, (arp x L μ k e s i).1 = 0 → s.1 = 0
  | 0, h => h
  | i + 1, h => arp_0 i (arp_p h).1
theorem arp_f (hs : s = (0, e)) : ∀ i, (arp x L μ k e s i).1 = 0 → (arp x L μ k e s i).2 = nps x L e i
  | 0, _ => by rw [show arp x L μ k e s 0 = s from rfl, hs]; rfl
  | i + 1, h => by
    obtain ⟨h1, h2, h3⟩ := arp_p h
    rw [h3]
    show txE x L (arp x L μ k e s i).2 = txE x L (nps x L e i)
    rw [arp_f hs i h1]
theorem arp_K (hs : s = (0, e)) : ∀ i, (arp x L μ k e s (i + 1)).1 = 0 → txK x L e = 2
  | 0, h => by
    obtain ⟨h1, h2, h3⟩ := arp_p h
    have := (af9_0 h2).1
    rwa [show arp x L μ k e s 0 = s from rfl, hs] at this
  | i + 1, h => arp_K hs i (arp_p h).1
theorem nps_b (h : e ≤ L) : ∀ i, nps x L e i ≤ L
  | 0 => h
  | i + 1 => (tx_b (x := x) (nps_b h i)).2.2
theorem arp_b (h : s.2 ≤ L) : ∀ i, (arp x L μ k e s i).2 ≤ L
  | 0 => h
  | i + 1 => by
    have hb := arp_b h i
    by_cases c : (arp x L μ k e s i).1 = 0
    · rw [arp_y c]
      split
      · exact (tx_b (x := x) hb).2.2
      · exact hb
    · rw [arp_n c]
      exact hb
theorem arp_lt (h : s.1 < 10) : ∀ i, (arp x L μ k e s i).1 < 10
  | 0 => h
  | i + 1 => by
    by_cases c : (arp x L μ k e s i).1 = 0
    · rw [arp_y c]
      split
      · exact (show 0 < 10 by decide)
      · exact af9_lt
    · rw [arp_n c]
      exact arp_lt h i
theorem arp_ar (hs : s = (0, e)) : ∀ i m, ((arp x L μ k e s i).1 = 0 → ar9 x L μ k (i + m) 0 0 e = ar9 x L μ k m i (aI x L e i) (arp x L μ k e s i).2) ∧ ((arp x L μ k e s i).1 ≠ 0 → ar9 x L μ k (i + m) 0 0 e = arp x L μ k e s i)
  | 0, m => by
    rw [show arp x L μ k e s 0 = s from rfl, hs, Nat.zero_add]
    exact ⟨fun _ => rfl, fun h => absurd rfl h⟩
  | i + 1, m => by
    obtain ⟨h1, h2⟩ := arp_ar hs i (m + 1)
    rw [show i + 1 + m = i + (m + 1) from by omega]
    by_cases c : (arp x L μ k e s i).1 = 0
    · rw [h1 c, arp_y c]
      by_cases c2 : af9 x L μ k i (aI x L e i) (arp x L μ k e s i).2 = 0
      · rw [if_pos c2]
        refine ⟨fun _ => ?_, fun h => absurd rfl h⟩
        show (if af9 x L μ k i (aI x L e i) (arp x L μ k e s i).2 = 0 then ar9 x L μ k m (i + 1) (if i = 0 then txV x L (arp x L μ k e s i).2 else aI x L e i) (txE x L (arp x L μ k e s i).2) else _) = _
        rw [if_pos c2]
        have ea : (if i = 0 then txV x L (arp x L μ k e s i).2 else aI x L e i) = aI x L e (i + 1) := by
          unfold aI
          rw [if_neg (show ¬ i + 1 = 0 by omega)]
          by_cases q : i = 0
          · rw [if_pos q, arp_f hs i c, q]; rfl
          · rw [if_neg q, if_neg q]
        rw [ea]
      · rw [if_neg c2]
        exact ⟨fun h => absurd h c2, fun _ => ar9_no c2⟩
    · rw [h2 c, arp_n c]
      exact ⟨fun h => absurd h c, fun _ => rfl⟩
end AR
theorem arp_ln {x : Nat → Nat} {L e k i : Nat} {μ : Nat → Int32} {b5 b6 : Bool} (h1 : txK x L e = 1) (h2 : txW x L e = some k) (hi : i ≤ na9 k) (hd : na9 k ≤ i ∨ (arp x L μ k (txE x L e) (st9 b5 b6 k x L e) i).1 ≠ 0) :
    ((arp x L μ k (txE x L e) (st9 b5 b6 k x L e) i).1 ≠ 0 → ln9 x L (0, e, μ, b5, b6) = ((arp x L μ k (txE x L e) (st9 b5 b6 k x L e) i).1, (arp x L μ k (txE x L e) (st9 b5 b6 k x L e) i).2, μ, b5, b6)) ∧
    ((arp x L μ k (txE x L e) (st9 b5 b6 k x L e) i).1 = 0 → (ar9 x L μ k (na9 k) 0 0 (txE x L e)).1 = 0 ∧ ln9 x L (0, e, μ, b5, b6) = (tf9 (txK x L (arp x L μ k (txE x L e) (st9 b5 b6 k x L e) i).2) 3, cl9 x L (arp x L μ k (txE x L e) (st9 b5 b6 k x L e) i).2, EF μ k (txV x L (txE x L e)) (txV x L (txE x L (txE x L e))) (txV x L (txE x L (txE x L (txE x L e)))), b5 || decide (k = 5), b6 || decide (k = 6))) := by
  by_cases ht : told9 b5 b6 k = true
  · have hs : st9 b5 b6 k x L e = (5, e) := if_pos ht
    have ha : ∀ j, arp x L μ k (txE x L e) (5, e) j = (5, e) := fun j => by
      induction j with
      | zero => rfl
      | succ j ih => rw [arp_n (by rw [ih]; exact (show ¬ (5 : Nat) = 0 by decide)), ih]
    rw [hs, ha i]
    exact ⟨fun _ => ln9_k2 (s := (0, e, μ, b5, b6)) h1 h2 ht, fun h => absurd h (show ¬ (5 : Nat) = 0 by decide)⟩
  · have hs : st9 b5 b6 k x L e = (0, txE x L e) := if_neg ht
    rw [hs] at hd ⊢
    obtain ⟨q1, q2⟩ := arp_ar (x := x) (L := L) (μ := μ) (k := k) (e := txE x L e) (s := (0, txE x L e)) rfl i (na9 k - i)
    rw [show i + (na9 k - i) = na9 k from by omega] at q1 q2
    refine ⟨fun h => ?_, fun h => ?_⟩
    · have q3 := q2 h
      have := ln_f (b5 := b5) (b6 := b6) h1 h2 ht rfl (by rw [q3]; exact h)
      rw [this, q3]
    · have hn : na9 k - i = 0 := by
        rcases hd with q | q
        · omega
        · exact absurd h q
      have q3 := q1 h
      rw [hn] at q3
      have q4 : ar9 x L μ k (na9 k) 0 0 (txE x L e) = (0, (arp x L μ k (txE x L e) (0, txE x L e) i).2) := q3
      refine ⟨by rw [q4], ?_⟩
      have := ln_y (b5 := b5) (b6 := b6) h1 h2 ht rfl (by rw [q4])
      rw [this, q4]

theorem st9_0 {b5 b6 : Bool} {k L e : Nat} {x : Nat → Nat} (h : (st9 b5 b6 k x L e).1 = 0) : st9 b5 b6 k x L e = (0, txE x L e) := by
  unfold st9 at h ⊢
  by_cases c : told9 b5 b6 k = true
  · rw [if_pos c] at h
    cases h
  · exact if_neg c

set_option maxRecDepth 100000 in
set_option maxHeartbeats 400000 in
theorem c_readLine {l : Launch} {w : Wd} (hW : Wi w) {σ : Mem} (b5 b6 : Bool) (e L : Nat) (x : Nat → Nat) (p0 : Int32) (m : Nat) (μ : Nat → Int32) (he : e ≤ L) (hL : L ≤ 400) (hm : m < 6) (hv : vw (vb m) σ = μ) (hI : MI μ) (ht15002_σ : σ 15002 = (nI L)) (ht15003_σ : σ 15003 = (nI (txK x L e))) (ht15004_σ : σ 15004 = (nI (txS x L e))) (ht15005_σ : σ 15005 = (nI (txE x L e))) (ht15000_σ : σ 15000 = (nI 0)) (ht15001_σ : σ 15001 = p0) (hcTX_σ : TX 15600 σ L x) (hcTC_σ : TC σ b5 b6) : MC l w qX7_readLine 6 [.ref (w.1 15), .ref (w.1 (mc m 0))] σ none (fun σ' => (vw (vb m) σ' = pk0 (ln9 x L (0, e, μ, b5, b6)).1 (ln9 x L (0, e, μ, b5, b6)).2.2.1 μ) ∧ (σ' 15000 = (nI ((ln9 x L (0, e, μ, b5, b6)).1))) ∧ (σ' 15001 = (if (ln9 x L (0, e, μ, b5, b6)).1 = 0 then p0 else nI (txS x L (ln9 x L (0, e, μ, b5, b6)).2.1))) ∧ (σ' 15002 = (nI L)) ∧ (σ' 15005 = (nI (if (ln9 x L (0, e, μ, b5, b6)).1 = 0 then (ln9 x L (0, e, μ, b5, b6)).2.1 else txE x L (ln9 x L (0, e, μ, b5, b6)).2.1))) ∧ (TX 15600 σ' L x) ∧ ((ln9 x L (0, e, μ, b5, b6)).1 = 0 → TC σ' (ln9 x L (0, e, μ, b5, b6)).2.2.2.1 (ln9 x L (0, e, μ, b5, b6)).2.2.2.2) ∧ (∀ a, ((a < vb m ∨ vb m + 464 ≤ a) ∧ (a < 15000 ∨ a = 15002 ∨ a = 15007 ∨ 15013 ≤ a)) → σ' a = σ a)) := by
  refine MC.of hW (by decide +kernel) (Nat.le_of_ble_eq_true rfl) (fun X h hQ hnm => ?_)
  have h : Fx X w cX7_readLine 4 RX7 6 := h
  have hQ : Qx X w none none (fun σ' => (vw (vb m) σ' = pk0 (ln9 x L (0, e, μ, b5, b6)).1 (ln9 x L (0, e, μ, b5, b6)).2.2.1 μ) ∧ (σ' 15000 = (nI ((ln9 x L (0, e, μ, b5, b6)).1))) ∧ (σ' 15001 = (if (ln9 x L (0, e, μ, b5, b6)).1 = 0 then p0 else nI (txS x L (ln9 x L (0, e, μ, b5, b6)).2.1))) ∧ (σ' 15002 = (nI L)) ∧ (σ' 15005 = (nI (if (ln9 x L (0, e, μ, b5, b6)).1 = 0 then (ln9 x L (0, e, μ, b5, b6)).2.1 else txE x L (ln9 x L (0, e, μ, b5, b6)).2.1))) ∧ (TX 15600 σ' L x) ∧ ((ln9 x L (0, e, μ, b5, b6)).1 = 0 → TC σ' (ln9 x L (0, e, μ, b5, b6)).2.2.2.1 (ln9 x L (0, e, μ, b5, b6)).2.2.2.2) ∧ (∀ a, ((a < vb m ∨ vb m + 464 ≤ a) ∧ (a < 15000 ∨ a = 15002 ∨ a = 15007 ∨ 15013 ≤ a)) → σ' a = σ a)) := hQ
  have hN8 := mi_8 hI
  have hb := tx_b (x := x) he
  have hk5 := txK_5 (x := x) (L := L) (e := e)
  have hvb1 : vb m = 10000 + 528 * m := rfl
  have hcFR_σ : ∀ a, ((a < vb m ∨ vb m + 464 ≤ a) ∧ (a < 15000 ∨ a = 15002 ∨ a = 15007 ∨ 15013 ≤ a)) → σ a = σ a := fun _ _ => rfl
  show G X w 4 0 [(0, .ref (w.1 15)), (1, .ref (w.1 (mc m 0)))] [] σ
  refine g_aload_n h dX7_readLine_0 0 rfl ?_
  refine g_geti h dX7_readLine_1 gX7_55 sc_15 rfl ?_
  refine g_top (y := (nI (txK x L e))) (by first | exact ht15003_σ | assumption) ?_
  refine g_iconst h dX7_readLine_4 (by decide) ?_
  refine g_icmpN_ne h dX7_readLine_5 (by omega) (by omega) (fun c5 => ?_) (fun c5 => ?_)
  ·
    refine g_iconst h dX7_readLine_15 (by decide) ?_
    refine g_istore_n (L' := [(0, .ref (w.1 15)), (1, .ref (w.1 (mc m 0))), (2, .int (nI 0))]) h dX7_readLine_16 rfl (by decide) rfl ?_
    refine g_iload_n h dX7_readLine_17 2 rfl ?_
    refine g_ifN_ne h dX7_readLine_18 (by decide) (fun c18 => absurd c18 (by decide)) (fun c18 => ?_)
    have hky : kyO x L e = none := by first | exact if_neg c5 | exact (if_pos c5).trans hn
    have hR0 := ln_n (μ := μ) (b5 := b5) (b6 := b6) hky
    refine g_aload_n h dX7_readLine_21 0 rfl ?_
    refine g_aload_n h dX7_readLine_22 0 rfl ?_
    refine g_geti h dX7_readLine_23 gX7_55 sc_15 rfl ?_
    refine g_top (y := (nI (txK x L e))) (by first | exact ht15003_σ | assumption) ?_
    refine g_iconst h dX7_readLine_26 (by decide) ?_
    refine g_icmpN_ne h dX7_readLine_27 (by omega) (by omega) (fun c27 => ?_) (fun c27 => ?_)
    ·
      have hF : tff (txK x L e) 2 = 2 := if_neg c27
      rw [hF] at hR0
      have hR := hR0
      have hne : ¬ (2 : Nat) = 0 := by decide
      refine g_iconst h dX7_readLine_34 (by decide) ?_
      refine g_cvv (rest := []) h (c_finds hW 2 (txS x L e) p0 (by first | omega | exact AF_lt | exact tf9_lt | assumption | fail) (by first | exact ht15000_σ | assumption | fail) (by first | exact ht15001_σ | assumption | fail) (by first | exact ht15004_σ | assumption | fail)) lX7_finds mX7_66 (Nat.lt_of_lt_of_le (by decide) (Nat.le_refl _)) (by decide) sc_15 rfl rfl rfl rfl dX7_readLine_35 (fun σ_1 eσ_1 => ?_)
      obtain ⟨eσ_1_a, eσ_1_b, eσ_1_c⟩ := eσ_1
      have eσ_1_a : σ_1 15000 = (nI 2) := eσ_1_a
      have eσ_1_b : σ_1 15001 = (if 2 = 0 then p0 else nI (txS x L e)) := eσ_1_b
      have eσ_1_c : ∀ a, (a ≠ 15000 ∧ a ≠ 15001) → σ_1 a = σ a := eσ_1_c
      have ht15002_σ_1 : σ_1 15002 = (nI L) := by rw [eσ_1_c _ (by first | omega | (simp only [vb] at *; omega))]; first | exact ht15002_σ | assumption
      have ht15003_σ_1 : σ_1 15003 = (nI (txK x L e)) := by rw [eσ_1_c _ (by first | omega | (simp only [vb] at *; omega))]; first | exact ht15003_σ | assumption
      have ht15004_σ_1 : σ_1 15004 = (nI (txS x L e)) := by rw [eσ_1_c _ (by first | omega | (simp only [vb] at *; omega))]; first | exact ht15004_σ | assumption
      have ht15005_σ_1 : σ_1 15005 = (nI (txE x L e)) := by rw [eσ_1_c _ (by first | omega | (simp only [vb] at *; omega))]; first | exact ht15005_σ | assumption
      have ht15000_σ_1 : σ_1 15000 = (nI 2) := eσ_1_a
      have ht15001_σ_1 : σ_1 15001 = (if 2 = 0 then p0 else nI (txS x L e)) := eσ_1_b
      have hcTX_σ_1 : TX 15600 σ_1 L x := by exact TX.fr hcTX_σ (fun a ha hb => eσ_1_c a (by first | omega | (simp only [vb] at *; omega)))
      have hcTC_σ_1 : TC σ_1 b5 b6 := by exact TC.fr hcTC_σ (eσ_1_c _ (by first | omega | (simp only [vb] at *; omega)))
      have hcFR_σ_1 : ∀ a, ((a < vb m ∨ vb m + 464 ≤ a) ∧ (a < 15000 ∨ a = 15002 ∨ a = 15007 ∨ 15013 ≤ a)) → σ_1 a = σ a := by intro a ha; exact Eq.trans (b := σ a) (eσ_1_c a (by first | omega | (simp only [vb] at *; omega))) (hcFR_σ a ha)
      have hvσ_1 : vw (vb m) σ_1 = μ := by rw [vw_fr (σ := σ) (fun j _ _ => eσ_1_c _ (by first | omega | (simp only [vb] at *; omega)))]; first | exact hv | assumption
      exact g_vret h hQ dX7_readLine_38 rfl (by exact ⟨(by first | (rw [hR]; exact (hvσ_1).trans (if_neg hne).symm) | (rw [hR]; exact (hvσ_1).trans (by rw [Nat.add_zero]; rfl)) | fail), (by first | (rw [hR]; exact (ht15000_σ_1).trans (congrArg nI c126)) | (rw [hR]; exact ht15000_σ_1) | fail), (by first | (rw [hR]; exact (ht15001_σ_1).trans (if_pos c126)) | (rw [hR]; exact ht15001_σ_1) | fail), (by first | exact ht15002_σ_1 | assumption | fail), (by first | (rw [hR]; exact (ht15005_σ_1).trans (congrArg nI (if_neg c126).symm)) | (rw [hR]; exact ht15005_σ_1) | fail), (by first | exact hcTX_σ_1 | assumption | fail), (by first | (intro z; rw [hR] at z; exact absurd z hne) | (intro _; rw [hR]; exact hcTC_σ_1) | fail), (by exact hcFR_σ_1)⟩)
    ·
      have hF : tff (txK x L e) 2 = 1 := if_pos c27
      rw [hF] at hR0
      have hR := hR0
      have hne : ¬ (1 : Nat) = 0 := by decide
      refine g_iconst h dX7_readLine_30 (by decide) ?_
      refine g_goto h dX7_readLine_31 ?_
      refine g_cvv (rest := []) h (c_finds hW 1 (txS x L e) p0 (by first | omega | exact AF_lt | exact tf9_lt | assumption | fail) (by first | exact ht15000_σ | assumption | fail) (by first | exact ht15001_σ | assumption | fail) (by first | exact ht15004_σ | assumption | fail)) lX7_finds mX7_66 (Nat.lt_of_lt_of_le (by decide) (Nat.le_refl _)) (by decide) sc_15 rfl rfl rfl rfl dX7_readLine_35 (fun σ_2 eσ_2 => ?_)
      obtain ⟨eσ_2_a, eσ_2_b, eσ_2_c⟩ := eσ_2
      have eσ_2_a : σ_2 15000 = (nI 1) := eσ_2_a
      have eσ_2_b : σ_2 15001 = (if 1 = 0 then p0 else nI (txS x L e)) := eσ_2_b
      have eσ_2_c : ∀ a, (a ≠ 15000 ∧ a ≠ 15001) → σ_2 a = σ a := eσ_2_c
      have ht15002_σ_2 : σ_2 15002 = (nI L) := by rw [eσ_2_c _ (by first | omega | (simp only [vb] at *; omega))]; first | exact ht15002_σ | assumption
      have ht15003_σ_2 : σ_2 15003 = (nI (txK x L e)) := by rw [eσ_2_c _ (by first | omega | (simp only [vb] at *; omega))]; first | exact ht15003_σ | assumption
      have ht15004_σ_2 : σ_2 15004 = (nI (txS x L e)) := by rw [eσ_2_c _ (by first | omega | (simp only [vb] at *; omega))]; first | exact ht15004_σ | assumption
      have ht15005_σ_2 : σ_2 15005 = (nI (txE x L e)) := by rw [eσ_2_c _ (by first | omega | (simp only [vb] at *; omega))]; first | exact ht15005_σ | assumption
      have ht15000_σ_2 : σ_2 15000 = (nI 1) := eσ_2_a
      have ht15001_σ_2 : σ_2 15001 = (if 1 = 0 then p0 else nI (txS x L e)) := eσ_2_b
      have hcTX_σ_2 : TX 15600 σ_2 L x := by exact TX.fr hcTX_σ (fun a ha hb => eσ_2_c a (by first | omega | (simp only [vb] at *; omega)))
      have hcTC_σ_2 : TC σ_2 b5 b6 := by exact TC.fr hcTC_σ (eσ_2_c _ (by first | omega | (simp only [vb] at *; omega)))
      have hcFR_σ_2 : ∀ a, ((a < vb m ∨ vb m + 464 ≤ a) ∧ (a < 15000 ∨ a = 15002 ∨ a = 15007 ∨ 15013 ≤ a)) → σ_2 a = σ a := by intro a ha; exact Eq.trans (b := σ a) (eσ_2_c a (by first | omega | (simp only [vb] at *; omega))) (hcFR_σ a ha)
      have hvσ_2 : vw (vb m) σ_2 = μ := by rw [vw_fr (σ := σ) (fun j _ _ => eσ_2_c _ (by first | omega | (simp only [vb] at *; omega)))]; first | exact hv | assumption
      exact g_vret h hQ dX7_readLine_38 rfl (by exact ⟨(by first | (rw [hR]; exact (hvσ_2).trans (if_neg hne).symm) | (rw [hR]; exact (hvσ_2).trans (by rw [Nat.add_zero]; rfl)) | fail), (by first | (rw [hR]; exact (ht15000_σ_2).trans (congrArg nI c126)) | (rw [hR]; exact ht15000_σ_2) | fail), (by first | (rw [hR]; exact (ht15001_σ_2).trans (if_pos c126)) | (rw [hR]; exact ht15001_σ_2) | fail), (by first | exact ht15002_σ_2 | assumption | fail), (by first | (rw [hR]; exact (ht15005_σ_2).trans (congrArg nI (if_neg c126).symm)) | (rw [hR]; exact ht15005_σ_2) | fail), (by first | exact hcTX_σ_2 | assumption | fail), (by first | (intro z; rw [hR] at z; exact absurd z hne) | (intro _; rw [hR]; exact hcTC_σ_2) | fail), (by exact hcFR_σ_2)⟩)
  ·
    refine g_aload_n h dX7_readLine_8 0 rfl ?_
    refine g_cvpi (rest := []) h (c_lineKind hW e L x (by first | omega | assumption | fail) (by first | omega | assumption | fail) (by first | exact ht15002_σ | assumption | fail) (by first | exact ht15004_σ | assumption | fail) (by first | exact ht15005_σ | assumption | fail) (by first | exact hcTX_σ | assumption | fail)) lX7_lineKind mX7_62 (Nat.lt_of_lt_of_le (by decide) (Nat.le_refl _)) (by decide) sc_15 rfl rfl rfl rfl dX7_readLine_9 ?_
    rcases lk_or (txW x L e) with ⟨hn, he9⟩ | ⟨k, hn, he9⟩
    ·
      rw [he9]
      show G X w 4 12 [(0, .ref (w.1 15)), (1, .ref (w.1 (mc m 0)))] [.int (nI 0)] σ
      refine g_goto h dX7_readLine_12 ?_
      refine g_istore_n (L' := [(0, .ref (w.1 15)), (1, .ref (w.1 (mc m 0))), (2, .int (nI 0))]) h dX7_readLine_16 rfl (by decide) rfl ?_
      refine g_iload_n h dX7_readLine_17 2 rfl ?_
      refine g_ifN_ne h dX7_readLine_18 (by decide) (fun c18 => absurd c18 (by decide)) (fun c18 => ?_)
      have hky : kyO x L e = none := by first | exact if_neg c5 | exact (if_pos c5).trans hn
      have hR0 := ln_n (μ := μ) (b5 := b5) (b6 := b6) hky
      refine g_aload_n h dX7_readLine_21 0 rfl ?_
      refine g_aload_n h dX7_readLine_22 0 rfl ?_
      refine g_geti h dX7_readLine_23 gX7_55 sc_15 rfl ?_
      refine g_top (y := (nI (txK x L e))) (by first | exact ht15003_σ | assumption) ?_
      refine g_iconst h dX7_readLine_26 (by decide) ?_
      refine g_icmpN_ne h dX7_readLine_27 (by omega) (by omega) (fun c27 => ?_) (fun c27 => ?_)
      ·
        have hF : tff (txK x L e) 2 = 2 := if_neg c27
        rw [hF] at hR0
        have hR := hR0
        have hne : ¬ (2 : Nat) = 0 := by decide
        refine g_iconst h dX7_readLine_34 (by decide) ?_
        refine g_cvv (rest := []) h (c_finds hW 2 (txS x L e) p0 (by first | omega | exact AF_lt | exact tf9_lt | assumption | fail) (by first | exact ht15000_σ | assumption | fail) (by first | exact ht15001_σ | assumption | fail) (by first | exact ht15004_σ | assumption | fail)) lX7_finds mX7_66 (Nat.lt_of_lt_of_le (by decide) (Nat.le_refl _)) (by decide) sc_15 rfl rfl rfl rfl dX7_readLine_35 (fun σ_3 eσ_3 => ?_)
        obtain ⟨eσ_3_a, eσ_3_b, eσ_3_c⟩ := eσ_3
        have eσ_3_a : σ_3 15000 = (nI 2) := eσ_3_a
        have eσ_3_b : σ_3 15001 = (if 2 = 0 then p0 else nI (txS x L e)) := eσ_3_b
        have eσ_3_c : ∀ a, (a ≠ 15000 ∧ a ≠ 15001) → σ_3 a = σ a := eσ_3_c
        have ht15002_σ_3 : σ_3 15002 = (nI L) := by rw [eσ_3_c _ (by first | omega | (simp only [vb] at *; omega))]; first | exact ht15002_σ | assumption
        have ht15003_σ_3 : σ_3 15003 = (nI (txK x L e)) := by rw [eσ_3_c _ (by first | omega | (simp only [vb] at *; omega))]; first | exact ht15003_σ | assumption
        have ht15004_σ_3 : σ_3 15004 = (nI (txS x L e)) := by rw [eσ_3_c _ (by first | omega | (simp only [vb] at *; omega))]; first | exact ht15004_σ | assumption
        have ht15005_σ_3 : σ_3 15005 = (nI (txE x L e)) := by rw [eσ_3_c _ (by first | omega | (simp only [vb] at *; omega))]; first | exact ht15005_σ | assumption
        have ht15000_σ_3 : σ_3 15000 = (nI 2) := eσ_3_a
        have ht15001_σ_3 : σ_3 15001 = (if 2 = 0 then p0 else nI (txS x L e)) := eσ_3_b
        have hcTX_σ_3 : TX 15600 σ_3 L x := by exact TX.fr hcTX_σ (fun a ha hb => eσ_3_c a (by first | omega | (simp only [vb] at *; omega)))
        have hcTC_σ_3 : TC σ_3 b5 b6 := by exact TC.fr hcTC_σ (eσ_3_c _ (by first | omega | (simp only [vb] at *; omega)))
        have hcFR_σ_3 : ∀ a, ((a < vb m ∨ vb m + 464 ≤ a) ∧ (a < 15000 ∨ a = 15002 ∨ a = 15007 ∨ 15013 ≤ a)) → σ_3 a = σ a := by intro a ha; exact Eq.trans (b := σ a) (eσ_3_c a (by first | omega | (simp only [vb] at *; omega))) (hcFR_σ a ha)
        have hvσ_3 : vw (vb m) σ_3 = μ := by rw [vw_fr (σ := σ) (fun j _ _ => eσ_3_c _ (by first | omega | (simp only [vb] at *; omega)))]; first | exact hv | assumption
        exact g_vret h hQ dX7_readLine_38 rfl (by exact ⟨(by first | (rw [hR]; exact (hvσ_3).trans (if_neg hne).symm) | (rw [hR]; exact (hvσ_3).trans (by rw [Nat.add_zero]; rfl)) | fail), (by first | (rw [hR]; exact (ht15000_σ_3).trans (congrArg nI c126)) | (rw [hR]; exact ht15000_σ_3) | fail), (by first | (rw [hR]; exact (ht15001_σ_3).trans (if_pos c126)) | (rw [hR]; exact ht15001_σ_3) | fail), (by first | exact ht15002_σ_3 | assumption | fail), (by first | (rw [hR]; exact (ht15005_σ_3).trans (congrArg nI (if_neg c126).symm)) | (rw [hR]; exact ht15005_σ_3) | fail), (by first | exact hcTX_σ_3 | assumption | fail), (by first | (intro z; rw [hR] at z; exact absurd z hne) | (intro _; rw [hR]; exact hcTC_σ_3) | fail), (by exact hcFR_σ_3)⟩)
      ·
        have hF : tff (txK x L e) 2 = 1 := if_pos c27
        rw [hF] at hR0
        have hR := hR0
        have hne : ¬ (1 : Nat) = 0 := by decide
        refine g_iconst h dX7_readLine_30 (by decide) ?_
        refine g_goto h dX7_readLine_31 ?_
        refine g_cvv (rest := []) h (c_finds hW 1 (txS x L e) p0 (by first | omega | exact AF_lt | exact tf9_lt | assumption | fail) (by first | exact ht15000_σ | assumption | fail) (by first | exact ht15001_σ | assumption | fail) (by first | exact ht15004_σ | assumption | fail)) lX7_finds mX7_66 (Nat.lt_of_lt_of_le (by decide) (Nat.le_refl _)) (by decide) sc_15 rfl rfl rfl rfl dX7_readLine_35 (fun σ_4 eσ_4 => ?_)
        obtain ⟨eσ_4_a, eσ_4_b, eσ_4_c⟩ := eσ_4
        have eσ_4_a : σ_4 15000 = (nI 1) := eσ_4_a
        have eσ_4_b : σ_4 15001 = (if 1 = 0 then p0 else nI (txS x L e)) := eσ_4_b
        have eσ_4_c : ∀ a, (a ≠ 15000 ∧ a ≠ 15001) → σ_4 a = σ a := eσ_4_c
        have ht15002_σ_4 : σ_4 15002 = (nI L) := by rw [eσ_4_c _ (by first | omega | (simp only [vb] at *; omega))]; first | exact ht15002_σ | assumption
        have ht15003_σ_4 : σ_4 15003 = (nI (txK x L e)) := by rw [eσ_4_c _ (by first | omega | (simp only [vb] at *; omega))]; first | exact ht15003_σ | assumption
        have ht15004_σ_4 : σ_4 15004 = (nI (txS x L e)) := by rw [eσ_4_c _ (by first | omega | (simp only [vb] at *; omega))]; first | exact ht15004_σ | assumption
        have ht15005_σ_4 : σ_4 15005 = (nI (txE x L e)) := by rw [eσ_4_c _ (by first | omega | (simp only [vb] at *; omega))]; first | exact ht15005_σ | assumption
        have ht15000_σ_4 : σ_4 15000 = (nI 1) := eσ_4_a
        have ht15001_σ_4 : σ_4 15001 = (if 1 = 0 then p0 else nI (txS x L e)) := eσ_4_b
        have hcTX_σ_4 : TX 15600 σ_4 L x := by exact TX.fr hcTX_σ (fun a ha hb => eσ_4_c a (by first | omega | (simp only [vb] at *; omega)))
        have hcTC_σ_4 : TC σ_4 b5 b6 := by exact TC.fr hcTC_σ (eσ_4_c _ (by first | omega | (simp only [vb] at *; omega)))
        have hcFR_σ_4 : ∀ a, ((a < vb m ∨ vb m + 464 ≤ a) ∧ (a < 15000 ∨ a = 15002 ∨ a = 15007 ∨ 15013 ≤ a)) → σ_4 a = σ a := by intro a ha; exact Eq.trans (b := σ a) (eσ_4_c a (by first | omega | (simp only [vb] at *; omega))) (hcFR_σ a ha)
        have hvσ_4 : vw (vb m) σ_4 = μ := by rw [vw_fr (σ := σ) (fun j _ _ => eσ_4_c _ (by first | omega | (simp only [vb] at *; omega)))]; first | exact hv | assumption
        exact g_vret h hQ dX7_readLine_38 rfl (by exact ⟨(by first | (rw [hR]; exact (hvσ_4).trans (if_neg hne).symm) | (rw [hR]; exact (hvσ_4).trans (by rw [Nat.add_zero]; rfl)) | fail), (by first | (rw [hR]; exact (ht15000_σ_4).trans (congrArg nI c126)) | (rw [hR]; exact ht15000_σ_4) | fail), (by first | (rw [hR]; exact (ht15001_σ_4).trans (if_pos c126)) | (rw [hR]; exact ht15001_σ_4) | fail), (by first | exact ht15002_σ_4 | assumption | fail), (by first | (rw [hR]; exact (ht15005_σ_4).trans (congrArg nI (if_neg c126).symm)) | (rw [hR]; exact ht15005_σ_4) | fail), (by first | exact hcTX_σ_4 | assumption | fail), (by first | (intro z; rw [hR] at z; exact absurd z hne) | (intro _; rw [hR]; exact hcTC_σ_4) | fail), (by exact hcFR_σ_4)⟩)
    ·
      rw [he9]
      have hk8 := txW_lt hn
      show G X w 4 12 [(0, .ref (w.1 15)), (1, .ref (w.1 (mc m 0)))] [.int (nI (k + 1))] σ
      refine g_goto h dX7_readLine_12 ?_
      refine g_istore_n (L' := [(0, .ref (w.1 15)), (1, .ref (w.1 (mc m 0))), (2, .int (nI (k + 1)))]) h dX7_readLine_16 rfl (by decide) rfl ?_
      refine g_iload_n h dX7_readLine_17 2 rfl ?_
      refine g_ifN_ne h dX7_readLine_18 (by omega) (fun c18 => ?_) (fun c18 => ?_)
      ·
        have hK1 : txK x L e = 1 := by omega
        refine g_iload_n h dX7_readLine_39 2 rfl ?_
        refine g_bipush h dX7_readLine_40 (by decide) ?_
        refine g_icmpN_eq h dX7_readLine_42 (by omega) (by omega) (fun c42 => ?_) (fun c42 => ?_)
        ·
          refine g_aload_n h dX7_readLine_51 0 rfl ?_
          refine g_geti h dX7_readLine_52 gX7_40 sc_15 rfl ?_
          refine g_iload_n h dX7_readLine_55 2 rfl ?_
          refine g_cspi (rest := []) h (c_has hW (σ 15006) (k + 1) (by omega)) lX5_has mX7_70 (Nat.lt_of_lt_of_le (by decide) (Nat.le_refl _)) (by decide) rfl rfl rfl dX7_readLine_56 ?_
          refine g_ifB_eq h dX7_readLine_59 (fun c59 => ?_) (fun c59 => ?_)
          ·
            have htn : ¬ told9 b5 b6 k = true := by first | exact tc_n hcTC_σ (Or.inl (by omega)) c59 | exact tc_n hcTC_σ (Or.inr (by omega)) c59
            have hst : (st9 b5 b6 k x L e) = (0, (txE x L e)) := if_neg htn
            have hTC0 := hcTC_σ
            have hsl : (st9 b5 b6 k x L e).1 < 10 := by rw [hst]; first | exact (show (0 : Nat) < 10 by decide) | exact (show (5 : Nat) < 10 by decide)
            have hsb : (st9 b5 b6 k x L e).2 ≤ L := by rw [hst]; first | exact hb.2.2 | exact he
            obtain ⟨n3, n1, -⟩ := na9_i (k := k)
            refine g_aload_n h dX7_readLine_67 0 rfl ?_
            refine g_aload_n h dX7_readLine_68 0 rfl ?_
            refine g_geti h dX7_readLine_69 gX7_40 sc_15 rfl ?_
            refine g_iload_n h dX7_readLine_72 2 rfl ?_
            refine g_iconst h dX7_readLine_73 (by decide) ?_
            refine g_cspi (rest := [.ref (w.1 15)]) h (c_with hW (σ 15006) (k + 1) true ) lX5_with mX7_74 (Nat.lt_of_lt_of_le (by decide) (Nat.le_refl _)) (by decide) rfl rfl rfl dX7_readLine_74 ?_
            refine g_puti h dX7_readLine_77 pX7_40 sc_15 rfl ?_
            refine g_nm (fun σt eσt => ?_)
            have eσt : σt = upd σ 15006 (wth (σ 15006) (k + 1) true) := eσt
            have ht15002_σt : σt 15002 = (nI L) := by rw [eσt, upd_ne (by first | omega | (simp only [vb] at *; omega))]; first | exact ht15002_σ | assumption
            have ht15003_σt : σt 15003 = (nI (txK x L e)) := by rw [eσt, upd_ne (by first | omega | (simp only [vb] at *; omega))]; first | exact ht15003_σ | assumption
            have ht15004_σt : σt 15004 = (nI (txS x L e)) := by rw [eσt, upd_ne (by first | omega | (simp only [vb] at *; omega))]; first | exact ht15004_σ | assumption
            have ht15005_σt : σt 15005 = (nI (txE x L e)) := by rw [eσt, upd_ne (by first | omega | (simp only [vb] at *; omega))]; first | exact ht15005_σ | assumption
            have ht15000_σt : σt 15000 = (nI 0) := by rw [eσt, upd_ne (by first | omega | (simp only [vb] at *; omega))]; first | exact ht15000_σ | assumption
            have ht15001_σt : σt 15001 = p0 := by rw [eσt, upd_ne (by first | omega | (simp only [vb] at *; omega))]; first | exact ht15001_σ | assumption
            have hcTX_σt : TX 15600 σt L x := by rw [eσt]; exact TX.fr hcTX_σ (fun a ha hb => upd_ne (by first | omega | (simp only [vb] at *; omega)))
            have hcFR_σt : ∀ a, ((a < vb m ∨ vb m + 464 ≤ a) ∧ (a < 15000 ∨ a = 15002 ∨ a = 15007 ∨ 15013 ≤ a)) → σt a = σ a := by intro a ha; exact Eq.trans (b := σ a) (by rw [eσt, upd_ne (by first | omega | (simp only [vb] at *; omega))]) (hcFR_σ a ha)
            have hvσt : vw (vb m) σt = μ := by rw [eσt, vw_out (by first | omega | (simp only [vb] at *; omega))]; first | exact hv | assumption
            have hcTC_σt : TC σt (b5 || decide (k = 5)) (b6 || decide (k = 6)) := tc_s hTC0 hk8 eσt
            refine g_iconst h dX7_readLine_80 (by decide) ?_
            refine g_istore_n (L' := [(0, .ref (w.1 15)), (1, .ref (w.1 (mc m 0))), (2, .int (nI (k + 1))), (3, .int (nI 0))]) h dX7_readLine_81 rfl (by decide) rfl ?_
            have lp82 : ∀ (k9 : Nat) (i : Nat) (τ : Mem), (i ≤ na9 k) → ((arp x L μ k (txE x L e) (st9 b5 b6 k x L e) i).1 = 0 → NU τ x L (txE x L e) i) → (vw (vb m) τ = μ) → (τ 15002 = (nI L)) → (τ 15005 = (nI (if (arp x L μ k (txE x L e) (st9 b5 b6 k x L e) i).1 = 0 then (arp x L μ k (txE x L e) (st9 b5 b6 k x L e) i).2 else txE x L (arp x L μ k (txE x L e) (st9 b5 b6 k x L e) i).2))) → (τ 15000 = (nI ((arp x L μ k (txE x L e) (st9 b5 b6 k x L e) i).1))) → (τ 15001 = (if (arp x L μ k (txE x L e) (st9 b5 b6 k x L e) i).1 = 0 then p0 else nI (txS x L (arp x L μ k (txE x L e) (st9 b5 b6 k x L e) i).2))) → (TX 15600 τ L x) → (∀ a, ((a < vb m ∨ vb m + 464 ≤ a) ∧ (a < 15000 ∨ a = 15002 ∨ a = 15007 ∨ 15013 ≤ a)) → τ a = σ a) → (TC τ (b5 || decide (k = 5)) (b6 || decide (k = 6))) → na9 k - i < k9 → G X w 4 82 [(0, .ref (w.1 15)), (1, .ref (w.1 (mc m 0))), (2, .int (nI (k + 1))), (3, .int (nI i))] [] (τ) := by
              intro k9
              induction k9 with
              | zero => intro i τ hi3 hNU hvτ ht15002_τ ht15005_τ ht15000_τ ht15001_τ hcTX_τ hcFR_τ hcTC_τ hm9; exact absurd hm9 (Nat.not_lt_zero _)
              | succ k9 ih82 =>
                intro i τ hi3 hNU hvτ ht15002_τ ht15005_τ ht15000_τ ht15001_τ hcTX_τ hcFR_τ hcTC_τ hm82
                have hal := arp_lt (x := x) (L := L) (μ := μ) (k := k) (e := (txE x L e)) (s := (st9 b5 b6 k x L e)) hsl i
                have hab := arp_b (x := x) (L := L) (μ := μ) (k := k) (e := (txE x L e)) (s := (st9 b5 b6 k x L e)) hsb i
                refine g_iload_n h dX7_readLine_82 3 rfl ?_
                refine g_iload_n h dX7_readLine_83 2 rfl ?_
                refine g_cspi (rest := [.int (nI i)]) h (c_numbersOf hW k (by omega)) lX7_numbersOf mX7_78 (Nat.lt_of_lt_of_le (by decide) (Nat.le_refl _)) (by decide) rfl rfl rfl dX7_readLine_84 ?_
                refine g_icmpN_ge h dX7_readLine_87 (by omega) (by omega) (fun c87 => ?_) (fun c87 => ?_)
                ·
                  obtain ⟨hLa, hLb⟩ := arp_ln (μ := μ) (b5 := b5) (b6 := b6) hK1 hn hi3 (Or.inl c87)
                  refine g_aload_n h dX7_readLine_110 0 rfl ?_
                  refine g_geti h dX7_readLine_111 gX7_46 sc_15 rfl ?_
                  refine g_top (y := (nI ((arp x L μ k (txE x L e) (st9 b5 b6 k x L e) i).1))) (by first | exact ht15000_τ | assumption) ?_
                  refine g_ifN_ne h dX7_readLine_114 (by omega) (fun c114 => ?_) (fun c114 => ?_)
                  ·
                    have hR := hLa c114
                    have hne := c114
                    refine g_aload_n h dX7_readLine_122 0 rfl ?_
                    refine g_geti h dX7_readLine_123 gX7_46 sc_15 rfl ?_
                    refine g_top (y := (nI ((arp x L μ k (txE x L e) (st9 b5 b6 k x L e) i).1))) (by first | exact ht15000_τ | assumption) ?_
                    refine g_ifN_ne h dX7_readLine_126 (by omega) (fun c126 => ?_) (fun c126 => absurd c126 c114)
                    exact g_vret h hQ dX7_readLine_135 rfl (by exact ⟨(by first | (rw [hR]; exact (hvτ).trans (if_neg hne).symm) | (rw [hR]; exact (hvτ).trans (by rw [Nat.add_zero]; rfl)) | fail), (by first | (rw [hR]; exact (ht15000_τ).trans (congrArg nI c126)) | (rw [hR]; exact ht15000_τ) | fail), (by first | (rw [hR]; exact (ht15001_τ).trans (if_pos c126)) | (rw [hR]; exact ht15001_τ) | fail), (by first | exact ht15002_τ | assumption | fail), (by first | (rw [hR]; exact (ht15005_τ).trans (congrArg nI (if_neg c126).symm)) | (rw [hR]; exact ht15005_τ) | fail), (by first | exact hcTX_τ | assumption | fail), (by first | (intro z; rw [hR] at z; exact absurd z hne) | (intro _; rw [hR]; exact hcTC_τ) | fail), (by exact hcFR_τ)⟩)
                  ·
                    obtain ⟨hq0, hR0⟩ := hLb c114
                    have hs9 : (st9 b5 b6 k x L e) = (0, (txE x L e)) := st9_0 (arp_0 i c114)
                    have hK0 : txK x L (txE x L e) = 2 := arp_K hs9 (i - 1) (by rw [show i - 1 + 1 = i from by omega]; exact c114)
                    obtain ⟨hv1, hv2, hv3⟩ := ar9_v hq0
                    have htf := tf9_lt (K := txK x L (arp x L μ k (txE x L e) (st9 b5 b6 k x L e) i).2) (q := 3)
                    have ht15000_τ : τ 15000 = (nI 0) := by rw [ht15000_τ, c114]
                    have ht15001_τ : τ 15001 = p0 := by rw [ht15001_τ, if_pos c114]
                    have ht15005_τ : τ 15005 = (nI ((arp x L μ k (txE x L e) (st9 b5 b6 k x L e) i).2)) := by rw [ht15005_τ, if_pos c114]
                    have hcNU_τ : NU τ x L (txE x L e) (na9 k) := by rw [show na9 k = i from by omega]; exact hNU c114
                    refine g_aload_n h dX7_readLine_117 0 rfl ?_
                    refine g_iconst h dX7_readLine_118 (by decide) ?_
                    refine g_cvv (rest := []) h (c_expect hW 3 ((arp x L μ k (txE x L e) (st9 b5 b6 k x L e) i).2) L x p0 (by exact hab) (by first | omega | assumption | fail) (by omega) (by first | exact ht15000_τ | assumption | fail) (by first | exact ht15001_τ | assumption | fail) (by first | exact ht15002_τ | assumption | fail) (by first | exact ht15005_τ | assumption | fail) (by first | exact hcTX_τ | assumption | fail)) lX7_expect mX7_86 (Nat.lt_of_lt_of_le (by decide) (Nat.le_refl _)) (by decide) sc_15 rfl rfl rfl rfl dX7_readLine_119 (fun σ_5 eσ_5 => ?_)
                    obtain ⟨eσ_5_a, eσ_5_b, eσ_5_c, eσ_5_d, eσ_5_e, eσ_5_f, eσ_5_g, eσ_5_h⟩ := eσ_5
                    have eσ_5_a : σ_5 15002 = (nI L) := eσ_5_a
                    have eσ_5_b : σ_5 15003 = (nI (txK x L ((arp x L μ k (txE x L e) (st9 b5 b6 k x L e) i).2))) := eσ_5_b
                    have eσ_5_c : σ_5 15004 = (nI (txS x L ((arp x L μ k (txE x L e) (st9 b5 b6 k x L e) i).2))) := eσ_5_c
                    have eσ_5_d : σ_5 15005 = (nI (txE x L ((arp x L μ k (txE x L e) (st9 b5 b6 k x L e) i).2))) := eσ_5_d
                    have eσ_5_e : σ_5 15000 = (nI (tf9 (txK x L ((arp x L μ k (txE x L e) (st9 b5 b6 k x L e) i).2)) 3)) := eσ_5_e
                    have eσ_5_f : σ_5 15001 = (if (tf9 (txK x L ((arp x L μ k (txE x L e) (st9 b5 b6 k x L e) i).2)) 3) = 0 then p0 else nI (txS x L ((arp x L μ k (txE x L e) (st9 b5 b6 k x L e) i).2))) := eσ_5_f
                    have eσ_5_g : TX 15600 σ_5 L x := eσ_5_g
                    have eσ_5_h : ∀ a, (a ≠ 15000 ∧ a ≠ 15001 ∧ (a < 15003 ∨ 15005 < a)) → σ_5 a = (τ) a := eσ_5_h
                    have ht15002_σ_5 : σ_5 15002 = (nI L) := eσ_5_a
                    have ht15003_σ_5 : σ_5 15003 = (nI (txK x L ((arp x L μ k (txE x L e) (st9 b5 b6 k x L e) i).2))) := eσ_5_b
                    have ht15004_σ_5 : σ_5 15004 = (nI (txS x L ((arp x L μ k (txE x L e) (st9 b5 b6 k x L e) i).2))) := eσ_5_c
                    have ht15005_σ_5 : σ_5 15005 = (nI (txE x L ((arp x L μ k (txE x L e) (st9 b5 b6 k x L e) i).2))) := eσ_5_d
                    have ht15000_σ_5 : σ_5 15000 = (nI (tf9 (txK x L ((arp x L μ k (txE x L e) (st9 b5 b6 k x L e) i).2)) 3)) := eσ_5_e
                    have ht15001_σ_5 : σ_5 15001 = (if (tf9 (txK x L ((arp x L μ k (txE x L e) (st9 b5 b6 k x L e) i).2)) 3) = 0 then p0 else nI (txS x L ((arp x L μ k (txE x L e) (st9 b5 b6 k x L e) i).2))) := eσ_5_f
                    have hcTX_σ_5 : TX 15600 σ_5 L x := eσ_5_g
                    have hcFR_σ_5 : ∀ a, ((a < vb m ∨ vb m + 464 ≤ a) ∧ (a < 15000 ∨ a = 15002 ∨ a = 15007 ∨ 15013 ≤ a)) → σ_5 a = σ a := by intro a ha; exact Eq.trans (b := (τ) a) (eσ_5_h a (by first | omega | (simp only [vb] at *; omega))) (hcFR_τ a ha)
                    have hcTC_σ_5 : TC σ_5 (b5 || decide (k = 5)) (b6 || decide (k = 6)) := by exact TC.fr hcTC_τ (eσ_5_h _ (by first | omega | (simp only [vb] at *; omega)))
                    have hcNU_σ_5 : NU σ_5 x L (txE x L e) (na9 k) := by exact NU.fr hcNU_τ (fun a ha hb => eσ_5_h a (by first | omega | (simp only [vb] at *; omega)))
                    have hvσ_5 : vw (vb m) σ_5 = μ := by rw [vw_fr (σ := (τ)) (fun j _ _ => eσ_5_h _ (by first | omega | (simp only [vb] at *; omega)))]; first | exact hvτ | assumption
                    refine g_aload_n h dX7_readLine_122 0 rfl ?_
                    refine g_geti h dX7_readLine_123 gX7_46 sc_15 rfl ?_
                    refine g_top (y := (nI (tf9 (txK x L ((arp x L μ k (txE x L e) (st9 b5 b6 k x L e) i).2)) 3))) (by first | exact ht15000_σ_5 | assumption) ?_
                    refine g_ifN_ne h dX7_readLine_126 (by omega) (fun c126 => ?_) (fun c126 => ?_)
                    ·
                      rw [show cl9 x L (arp x L μ k (txE x L e) (st9 b5 b6 k x L e) i).2 = (arp x L μ k (txE x L e) (st9 b5 b6 k x L e) i).2 from if_neg (fun z => c126 (tf9_y z))] at hR0
                      have hR := hR0
                      have hne := c126
                      exact g_vret h hQ dX7_readLine_135 rfl (by exact ⟨(by first | (rw [hR]; exact (hvσ_5).trans (if_neg hne).symm) | (rw [hR]; exact (hvσ_5).trans (by rw [Nat.add_zero]; rfl)) | fail), (by first | (rw [hR]; exact (ht15000_σ_5).trans (congrArg nI c126)) | (rw [hR]; exact ht15000_σ_5) | fail), (by first | (rw [hR]; exact (ht15001_σ_5).trans (if_pos c126)) | (rw [hR]; exact ht15001_σ_5) | fail), (by first | exact ht15002_σ_5 | assumption | fail), (by first | (rw [hR]; exact (ht15005_σ_5).trans (congrArg nI (if_neg c126).symm)) | (rw [hR]; exact ht15005_σ_5) | fail), (by first | exact hcTX_σ_5 | assumption | fail), (by first | (intro z; rw [hR] at z; exact absurd z hne) | (intro _; rw [hR]; exact hcTC_σ_5) | fail), (by exact hcFR_σ_5)⟩)
                    ·
                      rw [show cl9 x L (arp x L μ k (txE x L e) (st9 b5 b6 k x L e) i).2 = txE x L (arp x L μ k (txE x L e) (st9 b5 b6 k x L e) i).2 from if_pos (tf9_0 c126), c126] at hR0
                      have hR := hR0
                      refine g_aload_n h dX7_readLine_129 0 rfl ?_
                      refine g_aload_n h dX7_readLine_130 1 rfl ?_
                      refine g_iload_n h dX7_readLine_131 2 rfl ?_
                      refine g_cvv (rest := []) h (c_carryOut hW k (txE x L e) L x m μ (by first | omega | decide | fail) (by first | exact hvσ_5 | assumption | fail) (by assumption) (by omega) (by first | omega | assumption | fail) (by assumption) (by exact hv1) (by exact hv2) (by exact hv3) (by first | exact hcNU_σ_5 | assumption | fail)) lX7_carryOut mX7_89 (Nat.lt_of_lt_of_le (by decide) (Nat.le_refl _)) (by decide) sc_15 rfl rfl rfl rfl dX7_readLine_132 (fun σ_6 eσ_6 => ?_)
                      obtain ⟨eσ_6_a, eσ_6_b⟩ := eσ_6
                      have eσ_6_a : vw (vb m) σ_6 = EF μ k (txV x L (txE x L e)) (txV x L (txE x L (txE x L e))) (txV x L (txE x L (txE x L (txE x L e)))) := eσ_6_a
                      have eσ_6_b : ∀ a, (a < vb m ∨ vb m + 464 ≤ a) → σ_6 a = σ_5 a := eσ_6_b
                      have ht15002_σ_6 : σ_6 15002 = (nI L) := by rw [eσ_6_b _ (by first | omega | (simp only [vb] at *; omega))]; first | exact ht15002_σ_5 | assumption
                      have ht15003_σ_6 : σ_6 15003 = (nI (txK x L ((arp x L μ k (txE x L e) (st9 b5 b6 k x L e) i).2))) := by rw [eσ_6_b _ (by first | omega | (simp only [vb] at *; omega))]; first | exact ht15003_σ_5 | assumption
                      have ht15004_σ_6 : σ_6 15004 = (nI (txS x L ((arp x L μ k (txE x L e) (st9 b5 b6 k x L e) i).2))) := by rw [eσ_6_b _ (by first | omega | (simp only [vb] at *; omega))]; first | exact ht15004_σ_5 | assumption
                      have ht15005_σ_6 : σ_6 15005 = (nI (txE x L ((arp x L μ k (txE x L e) (st9 b5 b6 k x L e) i).2))) := by rw [eσ_6_b _ (by first | omega | (simp only [vb] at *; omega))]; first | exact ht15005_σ_5 | assumption
                      have ht15000_σ_6 : σ_6 15000 = (nI (tf9 (txK x L ((arp x L μ k (txE x L e) (st9 b5 b6 k x L e) i).2)) 3)) := by rw [eσ_6_b _ (by first | omega | (simp only [vb] at *; omega))]; first | exact ht15000_σ_5 | assumption
                      have ht15001_σ_6 : σ_6 15001 = (if (tf9 (txK x L ((arp x L μ k (txE x L e) (st9 b5 b6 k x L e) i).2)) 3) = 0 then p0 else nI (txS x L ((arp x L μ k (txE x L e) (st9 b5 b6 k x L e) i).2))) := by rw [eσ_6_b _ (by first | omega | (simp only [vb] at *; omega))]; first | exact ht15001_σ_5 | assumption
                      have hcTX_σ_6 : TX 15600 σ_6 L x := by exact TX.fr hcTX_σ_5 (fun a ha hb => eσ_6_b a (by first | omega | (simp only [vb] at *; omega)))
                      have hcFR_σ_6 : ∀ a, ((a < vb m ∨ vb m + 464 ≤ a) ∧ (a < 15000 ∨ a = 15002 ∨ a = 15007 ∨ 15013 ≤ a)) → σ_6 a = σ a := by intro a ha; exact Eq.trans (b := σ_5 a) (eσ_6_b a (by first | omega | (simp only [vb] at *; omega))) (hcFR_σ_5 a ha)
                      have hcTC_σ_6 : TC σ_6 (b5 || decide (k = 5)) (b6 || decide (k = 6)) := by exact TC.fr hcTC_σ_5 (eσ_6_b _ (by first | omega | (simp only [vb] at *; omega)))
                      have hcNU_σ_6 : NU σ_6 x L (txE x L e) (na9 k) := by exact NU.fr hcNU_σ_5 (fun a ha hb => eσ_6_b a (by first | omega | (simp only [vb] at *; omega)))
                      obtain ⟨μ_7, eμ_7⟩ : ∃ μ_7 : Nat → Int32, μ_7 = EF μ k (txV x L (txE x L e)) (txV x L (txE x L (txE x L e))) (txV x L (txE x L (txE x L (txE x L e)))) := ⟨_, rfl⟩
                      have hvσ_6 : vw (vb m) σ_6 = μ_7 := by rw [eμ_7]; exact eσ_6_a
                      exact g_vret h hQ dX7_readLine_135 rfl (by exact ⟨(by first | (rw [hR]; exact (hvσ_6).trans (if_neg hne).symm) | (rw [hR]; exact (hvσ_6).trans (by rw [eμ_7]; rfl)) | fail), (by first | (rw [hR]; exact (ht15000_σ_6).trans (congrArg nI c126)) | (rw [hR]; exact ht15000_σ_6) | fail), (by first | (rw [hR]; exact (ht15001_σ_6).trans (if_pos c126)) | (rw [hR]; exact ht15001_σ_6) | fail), (by first | exact ht15002_σ_6 | assumption | fail), (by first | (rw [hR]; exact (ht15005_σ_6).trans (congrArg nI (if_neg c126).symm)) | (rw [hR]; exact ht15005_σ_6) | fail), (by first | exact hcTX_σ_6 | assumption | fail), (by first | (intro z; rw [hR] at z; exact absurd z hne) | (intro _; rw [hR]; exact hcTC_σ_6) | fail), (by exact hcFR_σ_6)⟩)
                ·
                  refine g_aload_n h dX7_readLine_90 0 rfl ?_
                  refine g_geti h dX7_readLine_91 gX7_46 sc_15 rfl ?_
                  refine g_top (y := (nI ((arp x L μ k (txE x L e) (st9 b5 b6 k x L e) i).1))) (by first | exact ht15000_τ | assumption) ?_
                  refine g_ifN_ne h dX7_readLine_94 (by omega) (fun c94 => ?_) (fun c94 => ?_)
                  ·
                    obtain ⟨hLa, hLb⟩ := arp_ln (μ := μ) (b5 := b5) (b6 := b6) hK1 hn hi3 (Or.inr c94)
                    have hR := hLa c94
                    have hne := c94
                    refine g_aload_n h dX7_readLine_110 0 rfl ?_
                    refine g_geti h dX7_readLine_111 gX7_46 sc_15 rfl ?_
                    refine g_top (y := (nI ((arp x L μ k (txE x L e) (st9 b5 b6 k x L e) i).1))) (by first | exact ht15000_τ | assumption) ?_
                    refine g_ifN_ne h dX7_readLine_114 (by omega) (fun c114 => ?_) (fun c114 => absurd c114 c94)
                    refine g_aload_n h dX7_readLine_122 0 rfl ?_
                    refine g_geti h dX7_readLine_123 gX7_46 sc_15 rfl ?_
                    refine g_top (y := (nI ((arp x L μ k (txE x L e) (st9 b5 b6 k x L e) i).1))) (by first | exact ht15000_τ | assumption) ?_
                    refine g_ifN_ne h dX7_readLine_126 (by omega) (fun c126 => ?_) (fun c126 => absurd c126 c94)
                    exact g_vret h hQ dX7_readLine_135 rfl (by exact ⟨(by first | (rw [hR]; exact (hvτ).trans (if_neg hne).symm) | (rw [hR]; exact (hvτ).trans (by rw [Nat.add_zero]; rfl)) | fail), (by first | (rw [hR]; exact (ht15000_τ).trans (congrArg nI c126)) | (rw [hR]; exact ht15000_τ) | fail), (by first | (rw [hR]; exact (ht15001_τ).trans (if_pos c126)) | (rw [hR]; exact ht15001_τ) | fail), (by first | exact ht15002_τ | assumption | fail), (by first | (rw [hR]; exact (ht15005_τ).trans (congrArg nI (if_neg c126).symm)) | (rw [hR]; exact ht15005_τ) | fail), (by first | exact hcTX_τ | assumption | fail), (by first | (intro z; rw [hR] at z; exact absurd z hne) | (intro _; rw [hR]; exact hcTC_τ) | fail), (by exact hcFR_τ)⟩)
                  ·
                    have hs9 : (st9 b5 b6 k x L e) = (0, (txE x L e)) := st9_0 (arp_0 i c94)
                    have hp9 : (arp x L μ k (txE x L e) (st9 b5 b6 k x L e) i).2 = nps x L (txE x L e) i := arp_f hs9 i c94
                    obtain ⟨hs1, hs2, hs3⟩ := arp_s (x := x) (L := L) (μ := μ) (k := k) (e := (txE x L e)) (s := (st9 b5 b6 k x L e)) (i := i) (p0 := p0) c94
                    have hK0 : 1 ≤ i → txK x L (txE x L e) = 2 := fun z => arp_K hs9 (i - 1) (by rw [show i - 1 + 1 = i from by omega]; exact c94)
                    have hnb := nps_b (x := x) (L := L) (e := (txE x L e)) hb.2.2 i
                    have hai : aI x L (txE x L e) i < 1000 := by unfold aI; split; omega; exact txV_lt (hK0 (by omega))
                    have ht15000_τ : τ 15000 = (nI 0) := by rw [ht15000_τ, c94]
                    have ht15001_τ : τ 15001 = p0 := by rw [ht15001_τ, if_pos c94]
                    have ht15005_τ : τ 15005 = (nI (nps x L (txE x L e) i)) := by rw [ht15005_τ, if_pos c94, hp9]
                    have hcNU_τ : NU τ x L (txE x L e) i := hNU c94
                    refine g_aload_n h dX7_readLine_97 0 rfl ?_
                    refine g_aload_n h dX7_readLine_98 1 rfl ?_
                    refine g_iload_n h dX7_readLine_99 2 rfl ?_
                    refine g_iload_n h dX7_readLine_100 3 rfl ?_
                    refine g_cvv (rest := []) h (c_readNumber hW k i (aI x L (txE x L e) i) (txE x L e) L x p0 m μ (by exact hnb) (by first | omega | assumption | fail) (by assumption) (by first | omega | decide | fail) (by first | exact hvτ | assumption | fail) (by omega) (by omega) (by intro z; exact if_neg (by omega)) (by exact hai) (by first | exact ht15000_τ | assumption | fail) (by first | exact ht15001_τ | assumption | fail) (by first | exact ht15002_τ | assumption | fail) (by first | exact ht15005_τ | assumption | fail) (by first | exact hcTX_τ | assumption | fail) (by first | exact hcNU_τ | assumption | fail)) lX7_readNumber mX7_82 (Nat.lt_of_lt_of_le (by decide) (Nat.le_refl _)) (by decide) sc_15 rfl rfl rfl rfl dX7_readLine_101 (fun σr eσr => ?_)
                    obtain ⟨eσr_a, eσr_b, eσr_c, eσr_d, eσr_e, eσr_f, eσr_g, eσr_h, eσr_i⟩ := eσr
                    have eσr_a : σr 15002 = (nI L) := eσr_a
                    have eσr_b : σr 15003 = (nI (txK x L (nps x L (txE x L e) i))) := eσr_b
                    have eσr_c : σr 15004 = (nI (txS x L (nps x L (txE x L e) i))) := eσr_c
                    have eσr_d : σr 15005 = (nI (txE x L (nps x L (txE x L e) i))) := eσr_d
                    have eσr_e : σr 15000 = (nI (af9 x L μ k i (aI x L (txE x L e) i) (nps x L (txE x L e) i))) := eσr_e
                    have eσr_f : σr 15001 = (if af9 x L μ k i (aI x L (txE x L e) i) (nps x L (txE x L e) i) = 0 then p0 else nI (txS x L (nps x L (txE x L e) i))) := eσr_f
                    have eσr_g : TX 15600 σr L x := eσr_g
                    have eσr_h : af9 x L μ k i (aI x L (txE x L e) i) (nps x L (txE x L e) i) = 0 → NU σr x L (txE x L e) (i + 1) := eσr_h
                    have eσr_i : ∀ a, (a ≠ 15000 ∧ a ≠ 15001 ∧ (a < 15003 ∨ 15005 < a) ∧ (a < 15010 ∨ 15013 ≤ a)) → σr a = (τ) a := eσr_i
                    have ht15002_σr : σr 15002 = (nI L) := eσr_a
                    have ht15003_σr : σr 15003 = (nI (txK x L (nps x L (txE x L e) i))) := eσr_b
                    have ht15004_σr : σr 15004 = (nI (txS x L (nps x L (txE x L e) i))) := eσr_c
                    have ht15005_σr : σr 15005 = (nI (txE x L (nps x L (txE x L e) i))) := eσr_d
                    have ht15000_σr : σr 15000 = (nI (af9 x L μ k i (aI x L (txE x L e) i) (nps x L (txE x L e) i))) := eσr_e
                    have ht15001_σr : σr 15001 = (if af9 x L μ k i (aI x L (txE x L e) i) (nps x L (txE x L e) i) = 0 then p0 else nI (txS x L (nps x L (txE x L e) i))) := eσr_f
                    have hcTX_σr : TX 15600 σr L x := eσr_g
                    have hcFR_σr : ∀ a, ((a < vb m ∨ vb m + 464 ≤ a) ∧ (a < 15000 ∨ a = 15002 ∨ a = 15007 ∨ 15013 ≤ a)) → σr a = σ a := by intro a ha; exact Eq.trans (b := (τ) a) (eσr_i a (by first | omega | (simp only [vb] at *; omega))) (hcFR_τ a ha)
                    have hcTC_σr : TC σr (b5 || decide (k = 5)) (b6 || decide (k = 6)) := by exact TC.fr hcTC_τ (eσr_i _ (by first | omega | (simp only [vb] at *; omega)))
                    have hvσr : vw (vb m) σr = μ := by rw [vw_fr (σ := (τ)) (fun j _ _ => eσr_i _ (by first | omega | (simp only [vb] at *; omega)))]; first | exact hvτ | assumption
                    refine g_iincN (b := 1) (L' := [(0, .ref (w.1 15)), (1, .ref (w.1 (mc m 0))), (2, .int (nI (k + 1))), (3, .int (nI (i + 1)))]) h dX7_readLine_104 3 rfl rfl (by decide) (by decide) rfl ?_
                    refine g_goto h dX7_readLine_107 ?_
                    exact ih82 (i + 1) σr (by omega) (by intro z; exact eσr_h (by rw [← hp9]; exact hs1.symm.trans z)) (by first | exact hvσr | assumption | fail | fail) (by first | exact ht15002_σr | assumption | fail | fail) (by rw [hs2, hp9]; exact ht15005_σr) (by rw [hs1, hp9]; exact ht15000_σr) (by rw [hs3, hp9]; exact ht15001_σr) (by first | exact hcTX_σr | assumption | fail | fail) (by first | exact hcFR_σr | assumption | fail | fail) (by first | exact hcTC_σr | assumption | fail | fail) (by omega)
            exact lp82 (_) 0 σt (by omega) (by intro _ j hj; omega) (by first | exact hvσt | assumption | fail | fail) (by first | exact ht15002_σt | assumption | fail | fail) (by rw [show (arp x L μ k (txE x L e) (st9 b5 b6 k x L e) 0) = (st9 b5 b6 k x L e) from rfl, hst]; exact ht15005_σt) (by rw [show (arp x L μ k (txE x L e) (st9 b5 b6 k x L e) 0) = (st9 b5 b6 k x L e) from rfl, hst]; exact ht15000_σt) (by rw [show (arp x L μ k (txE x L e) (st9 b5 b6 k x L e) 0) = (st9 b5 b6 k x L e) from rfl, hst]; exact ht15001_σt) (by first | exact hcTX_σt | assumption | fail | fail) (by first | exact hcFR_σt | assumption | fail | fail) (by first | exact hcTC_σt | assumption | fail | fail) (Nat.lt_succ_self _)
          ·
            have htn : told9 b5 b6 k = true := by first | exact tc_y hcTC_σ (Or.inl (by omega)) c59 | exact tc_y hcTC_σ (Or.inr (by omega)) c59
            have hst : (st9 b5 b6 k x L e) = (5, e) := if_pos htn
            refine g_aload_n h dX7_readLine_62 0 rfl ?_
            refine g_iconst h dX7_readLine_63 (by decide) ?_
            refine g_cvv (rest := []) h (c_finds hW 5 (txS x L e) p0 (by first | omega | exact AF_lt | exact tf9_lt | assumption | fail) (by first | exact ht15000_σ | assumption | fail) (by first | exact ht15001_σ | assumption | fail) (by first | exact ht15004_σ | assumption | fail)) lX7_finds mX7_66 (Nat.lt_of_lt_of_le (by decide) (Nat.le_refl _)) (by decide) sc_15 rfl rfl rfl rfl dX7_readLine_64 (fun σ_8 eσ_8 => ?_)
            obtain ⟨eσ_8_a, eσ_8_b, eσ_8_c⟩ := eσ_8
            have eσ_8_a : σ_8 15000 = (nI 5) := eσ_8_a
            have eσ_8_b : σ_8 15001 = (if 5 = 0 then p0 else nI (txS x L e)) := eσ_8_b
            have eσ_8_c : ∀ a, (a ≠ 15000 ∧ a ≠ 15001) → σ_8 a = σ a := eσ_8_c
            have ht15002_σ_8 : σ_8 15002 = (nI L) := by rw [eσ_8_c _ (by first | omega | (simp only [vb] at *; omega))]; first | exact ht15002_σ | assumption
            have ht15003_σ_8 : σ_8 15003 = (nI (txK x L e)) := by rw [eσ_8_c _ (by first | omega | (simp only [vb] at *; omega))]; first | exact ht15003_σ | assumption
            have ht15004_σ_8 : σ_8 15004 = (nI (txS x L e)) := by rw [eσ_8_c _ (by first | omega | (simp only [vb] at *; omega))]; first | exact ht15004_σ | assumption
            have ht15005_σ_8 : σ_8 15005 = (nI (txE x L e)) := by rw [eσ_8_c _ (by first | omega | (simp only [vb] at *; omega))]; first | exact ht15005_σ | assumption
            have ht15000_σ_8 : σ_8 15000 = (nI 5) := eσ_8_a
            have ht15001_σ_8 : σ_8 15001 = (if 5 = 0 then p0 else nI (txS x L e)) := eσ_8_b
            have hcTX_σ_8 : TX 15600 σ_8 L x := by exact TX.fr hcTX_σ (fun a ha hb => eσ_8_c a (by first | omega | (simp only [vb] at *; omega)))
            have hcTC_σ_8 : TC σ_8 b5 b6 := by exact TC.fr hcTC_σ (eσ_8_c _ (by first | omega | (simp only [vb] at *; omega)))
            have hcFR_σ_8 : ∀ a, ((a < vb m ∨ vb m + 464 ≤ a) ∧ (a < 15000 ∨ a = 15002 ∨ a = 15007 ∨ 15013 ≤ a)) → σ_8 a = σ a := by intro a ha; exact Eq.trans (b := σ a) (eσ_8_c a (by first | omega | (simp only [vb] at *; omega))) (hcFR_σ a ha)
            have hvσ_8 : vw (vb m) σ_8 = μ := by rw [vw_fr (σ := σ) (fun j _ _ => eσ_8_c _ (by first | omega | (simp only [vb] at *; omega)))]; first | exact hv | assumption
            have hTC0 := hcTC_σ_8
            have hsl : (st9 b5 b6 k x L e).1 < 10 := by rw [hst]; first | exact (show (0 : Nat) < 10 by decide) | exact (show (5 : Nat) < 10 by decide)
            have hsb : (st9 b5 b6 k x L e).2 ≤ L := by rw [hst]; first | exact hb.2.2 | exact he
            obtain ⟨n3, n1, -⟩ := na9_i (k := k)
            refine g_aload_n h dX7_readLine_67 0 rfl ?_
            refine g_aload_n h dX7_readLine_68 0 rfl ?_
            refine g_geti h dX7_readLine_69 gX7_40 sc_15 rfl ?_
            refine g_iload_n h dX7_readLine_72 2 rfl ?_
            refine g_iconst h dX7_readLine_73 (by decide) ?_
            refine g_cspi (rest := [.ref (w.1 15)]) h (c_with hW (σ_8 15006) (k + 1) true ) lX5_with mX7_74 (Nat.lt_of_lt_of_le (by decide) (Nat.le_refl _)) (by decide) rfl rfl rfl dX7_readLine_74 ?_
            refine g_puti h dX7_readLine_77 pX7_40 sc_15 rfl ?_
            refine g_nm (fun σt eσt => ?_)
            have eσt : σt = upd σ_8 15006 (wth (σ_8 15006) (k + 1) true) := eσt
            have ht15002_σt : σt 15002 = (nI L) := by rw [eσt, upd_ne (by first | omega | (simp only [vb] at *; omega))]; first | exact ht15002_σ_8 | assumption
            have ht15003_σt : σt 15003 = (nI (txK x L e)) := by rw [eσt, upd_ne (by first | omega | (simp only [vb] at *; omega))]; first | exact ht15003_σ_8 | assumption
            have ht15004_σt : σt 15004 = (nI (txS x L e)) := by rw [eσt, upd_ne (by first | omega | (simp only [vb] at *; omega))]; first | exact ht15004_σ_8 | assumption
            have ht15005_σt : σt 15005 = (nI (txE x L e)) := by rw [eσt, upd_ne (by first | omega | (simp only [vb] at *; omega))]; first | exact ht15005_σ_8 | assumption
            have ht15000_σt : σt 15000 = (nI 5) := by rw [eσt, upd_ne (by first | omega | (simp only [vb] at *; omega))]; first | exact ht15000_σ_8 | assumption
            have ht15001_σt : σt 15001 = (if 5 = 0 then p0 else nI (txS x L e)) := by rw [eσt, upd_ne (by first | omega | (simp only [vb] at *; omega))]; first | exact ht15001_σ_8 | assumption
            have hcTX_σt : TX 15600 σt L x := by rw [eσt]; exact TX.fr hcTX_σ_8 (fun a ha hb => upd_ne (by first | omega | (simp only [vb] at *; omega)))
            have hcFR_σt : ∀ a, ((a < vb m ∨ vb m + 464 ≤ a) ∧ (a < 15000 ∨ a = 15002 ∨ a = 15007 ∨ 15013 ≤ a)) → σt a = σ a := by intro a ha; exact Eq.trans (b := σ_8 a) (by rw [eσt, upd_ne (by first | omega | (simp only [vb] at *; omega))]) (hcFR_σ_8 a ha)
            have hvσt : vw (vb m) σt = μ := by rw [eσt, vw_out (by first | omega | (simp only [vb] at *; omega))]; first | exact hvσ_8 | assumption
            have hcTC_σt : TC σt (b5 || decide (k = 5)) (b6 || decide (k = 6)) := tc_s hTC0 hk8 eσt
            refine g_iconst h dX7_readLine_80 (by decide) ?_
            refine g_istore_n (L' := [(0, .ref (w.1 15)), (1, .ref (w.1 (mc m 0))), (2, .int (nI (k + 1))), (3, .int (nI 0))]) h dX7_readLine_81 rfl (by decide) rfl ?_
            have lp82 : ∀ (k9 : Nat) (i : Nat) (τ : Mem), (i ≤ na9 k) → ((arp x L μ k (txE x L e) (st9 b5 b6 k x L e) i).1 = 0 → NU τ x L (txE x L e) i) → (vw (vb m) τ = μ) → (τ 15002 = (nI L)) → (τ 15005 = (nI (if (arp x L μ k (txE x L e) (st9 b5 b6 k x L e) i).1 = 0 then (arp x L μ k (txE x L e) (st9 b5 b6 k x L e) i).2 else txE x L (arp x L μ k (txE x L e) (st9 b5 b6 k x L e) i).2))) → (τ 15000 = (nI ((arp x L μ k (txE x L e) (st9 b5 b6 k x L e) i).1))) → (τ 15001 = (if (arp x L μ k (txE x L e) (st9 b5 b6 k x L e) i).1 = 0 then p0 else nI (txS x L (arp x L μ k (txE x L e) (st9 b5 b6 k x L e) i).2))) → (TX 15600 τ L x) → (∀ a, ((a < vb m ∨ vb m + 464 ≤ a) ∧ (a < 15000 ∨ a = 15002 ∨ a = 15007 ∨ 15013 ≤ a)) → τ a = σ a) → (TC τ (b5 || decide (k = 5)) (b6 || decide (k = 6))) → na9 k - i < k9 → G X w 4 82 [(0, .ref (w.1 15)), (1, .ref (w.1 (mc m 0))), (2, .int (nI (k + 1))), (3, .int (nI i))] [] (τ) := by
              intro k9
              induction k9 with
              | zero => intro i τ hi3 hNU hvτ ht15002_τ ht15005_τ ht15000_τ ht15001_τ hcTX_τ hcFR_τ hcTC_τ hm9; exact absurd hm9 (Nat.not_lt_zero _)
              | succ k9 ih82 =>
                intro i τ hi3 hNU hvτ ht15002_τ ht15005_τ ht15000_τ ht15001_τ hcTX_τ hcFR_τ hcTC_τ hm82
                have hal := arp_lt (x := x) (L := L) (μ := μ) (k := k) (e := (txE x L e)) (s := (st9 b5 b6 k x L e)) hsl i
                have hab := arp_b (x := x) (L := L) (μ := μ) (k := k) (e := (txE x L e)) (s := (st9 b5 b6 k x L e)) hsb i
                refine g_iload_n h dX7_readLine_82 3 rfl ?_
                refine g_iload_n h dX7_readLine_83 2 rfl ?_
                refine g_cspi (rest := [.int (nI i)]) h (c_numbersOf hW k (by omega)) lX7_numbersOf mX7_78 (Nat.lt_of_lt_of_le (by decide) (Nat.le_refl _)) (by decide) rfl rfl rfl dX7_readLine_84 ?_
                refine g_icmpN_ge h dX7_readLine_87 (by omega) (by omega) (fun c87 => ?_) (fun c87 => ?_)
                ·
                  obtain ⟨hLa, hLb⟩ := arp_ln (μ := μ) (b5 := b5) (b6 := b6) hK1 hn hi3 (Or.inl c87)
                  refine g_aload_n h dX7_readLine_110 0 rfl ?_
                  refine g_geti h dX7_readLine_111 gX7_46 sc_15 rfl ?_
                  refine g_top (y := (nI ((arp x L μ k (txE x L e) (st9 b5 b6 k x L e) i).1))) (by first | exact ht15000_τ | assumption) ?_
                  refine g_ifN_ne h dX7_readLine_114 (by omega) (fun c114 => ?_) (fun c114 => ?_)
                  ·
                    have hR := hLa c114
                    have hne := c114
                    refine g_aload_n h dX7_readLine_122 0 rfl ?_
                    refine g_geti h dX7_readLine_123 gX7_46 sc_15 rfl ?_
                    refine g_top (y := (nI ((arp x L μ k (txE x L e) (st9 b5 b6 k x L e) i).1))) (by first | exact ht15000_τ | assumption) ?_
                    refine g_ifN_ne h dX7_readLine_126 (by omega) (fun c126 => ?_) (fun c126 => absurd c126 c114)
                    exact g_vret h hQ dX7_readLine_135 rfl (by exact ⟨(by first | (rw [hR]; exact (hvτ).trans (if_neg hne).symm) | (rw [hR]; exact (hvτ).trans (by rw [Nat.add_zero]; rfl)) | fail), (by first | (rw [hR]; exact (ht15000_τ).trans (congrArg nI c126)) | (rw [hR]; exact ht15000_τ) | fail), (by first | (rw [hR]; exact (ht15001_τ).trans (if_pos c126)) | (rw [hR]; exact ht15001_τ) | fail), (by first | exact ht15002_τ | assumption | fail), (by first | (rw [hR]; exact (ht15005_τ).trans (congrArg nI (if_neg c126).symm)) | (rw [hR]; exact ht15005_τ) | fail), (by first | exact hcTX_τ | assumption | fail), (by first | (intro z; rw [hR] at z; exact absurd z hne) | (intro _; rw [hR]; exact hcTC_τ) | fail), (by exact hcFR_τ)⟩)
                  ·
                    obtain ⟨hq0, hR0⟩ := hLb c114
                    have hs9 : (st9 b5 b6 k x L e) = (0, (txE x L e)) := st9_0 (arp_0 i c114)
                    have hK0 : txK x L (txE x L e) = 2 := arp_K hs9 (i - 1) (by rw [show i - 1 + 1 = i from by omega]; exact c114)
                    obtain ⟨hv1, hv2, hv3⟩ := ar9_v hq0
                    have htf := tf9_lt (K := txK x L (arp x L μ k (txE x L e) (st9 b5 b6 k x L e) i).2) (q := 3)
                    have ht15000_τ : τ 15000 = (nI 0) := by rw [ht15000_τ, c114]
                    have ht15001_τ : τ 15001 = p0 := by rw [ht15001_τ, if_pos c114]
                    have ht15005_τ : τ 15005 = (nI ((arp x L μ k (txE x L e) (st9 b5 b6 k x L e) i).2)) := by rw [ht15005_τ, if_pos c114]
                    have hcNU_τ : NU τ x L (txE x L e) (na9 k) := by rw [show na9 k = i from by omega]; exact hNU c114
                    refine g_aload_n h dX7_readLine_117 0 rfl ?_
                    refine g_iconst h dX7_readLine_118 (by decide) ?_
                    refine g_cvv (rest := []) h (c_expect hW 3 ((arp x L μ k (txE x L e) (st9 b5 b6 k x L e) i).2) L x p0 (by exact hab) (by first | omega | assumption | fail) (by omega) (by first | exact ht15000_τ | assumption | fail) (by first | exact ht15001_τ | assumption | fail) (by first | exact ht15002_τ | assumption | fail) (by first | exact ht15005_τ | assumption | fail) (by first | exact hcTX_τ | assumption | fail)) lX7_expect mX7_86 (Nat.lt_of_lt_of_le (by decide) (Nat.le_refl _)) (by decide) sc_15 rfl rfl rfl rfl dX7_readLine_119 (fun σ_9 eσ_9 => ?_)
                    obtain ⟨eσ_9_a, eσ_9_b, eσ_9_c, eσ_9_d, eσ_9_e, eσ_9_f, eσ_9_g, eσ_9_h⟩ := eσ_9
                    have eσ_9_a : σ_9 15002 = (nI L) := eσ_9_a
                    have eσ_9_b : σ_9 15003 = (nI (txK x L ((arp x L μ k (txE x L e) (st9 b5 b6 k x L e) i).2))) := eσ_9_b
                    have eσ_9_c : σ_9 15004 = (nI (txS x L ((arp x L μ k (txE x L e) (st9 b5 b6 k x L e) i).2))) := eσ_9_c
                    have eσ_9_d : σ_9 15005 = (nI (txE x L ((arp x L μ k (txE x L e) (st9 b5 b6 k x L e) i).2))) := eσ_9_d
                    have eσ_9_e : σ_9 15000 = (nI (tf9 (txK x L ((arp x L μ k (txE x L e) (st9 b5 b6 k x L e) i).2)) 3)) := eσ_9_e
                    have eσ_9_f : σ_9 15001 = (if (tf9 (txK x L ((arp x L μ k (txE x L e) (st9 b5 b6 k x L e) i).2)) 3) = 0 then p0 else nI (txS x L ((arp x L μ k (txE x L e) (st9 b5 b6 k x L e) i).2))) := eσ_9_f
                    have eσ_9_g : TX 15600 σ_9 L x := eσ_9_g
                    have eσ_9_h : ∀ a, (a ≠ 15000 ∧ a ≠ 15001 ∧ (a < 15003 ∨ 15005 < a)) → σ_9 a = (τ) a := eσ_9_h
                    have ht15002_σ_9 : σ_9 15002 = (nI L) := eσ_9_a
                    have ht15003_σ_9 : σ_9 15003 = (nI (txK x L ((arp x L μ k (txE x L e) (st9 b5 b6 k x L e) i).2))) := eσ_9_b
                    have ht15004_σ_9 : σ_9 15004 = (nI (txS x L ((arp x L μ k (txE x L e) (st9 b5 b6 k x L e) i).2))) := eσ_9_c
                    have ht15005_σ_9 : σ_9 15005 = (nI (txE x L ((arp x L μ k (txE x L e) (st9 b5 b6 k x L e) i).2))) := eσ_9_d
                    have ht15000_σ_9 : σ_9 15000 = (nI (tf9 (txK x L ((arp x L μ k (txE x L e) (st9 b5 b6 k x L e) i).2)) 3)) := eσ_9_e
                    have ht15001_σ_9 : σ_9 15001 = (if (tf9 (txK x L ((arp x L μ k (txE x L e) (st9 b5 b6 k x L e) i).2)) 3) = 0 then p0 else nI (txS x L ((arp x L μ k (txE x L e) (st9 b5 b6 k x L e) i).2))) := eσ_9_f
                    have hcTX_σ_9 : TX 15600 σ_9 L x := eσ_9_g
                    have hcFR_σ_9 : ∀ a, ((a < vb m ∨ vb m + 464 ≤ a) ∧ (a < 15000 ∨ a = 15002 ∨ a = 15007 ∨ 15013 ≤ a)) → σ_9 a = σ a := by intro a ha; exact Eq.trans (b := (τ) a) (eσ_9_h a (by first | omega | (simp only [vb] at *; omega))) (hcFR_τ a ha)
                    have hcTC_σ_9 : TC σ_9 (b5 || decide (k = 5)) (b6 || decide (k = 6)) := by exact TC.fr hcTC_τ (eσ_9_h _ (by first | omega | (simp only [vb] at *; omega)))
                    have hcNU_σ_9 : NU σ_9 x L (txE x L e) (na9 k) := by exact NU.fr hcNU_τ (fun a ha hb => eσ_9_h a (by first | omega | (simp only [vb] at *; omega)))
                    have hvσ_9 : vw (vb m) σ_9 = μ := by rw [vw_fr (σ := (τ)) (fun j _ _ => eσ_9_h _ (by first | omega | (simp only [vb] at *; omega)))]; first | exact hvτ | assumption
                    refine g_aload_n h dX7_readLine_122 0 rfl ?_
                    refine g_geti h dX7_readLine_123 gX7_46 sc_15 rfl ?_
                    refine g_top (y := (nI (tf9 (txK x L ((arp x L μ k (txE x L e) (st9 b5 b6 k x L e) i).2)) 3))) (by first | exact ht15000_σ_9 | assumption) ?_
                    refine g_ifN_ne h dX7_readLine_126 (by omega) (fun c126 => ?_) (fun c126 => ?_)
                    ·
                      rw [show cl9 x L (arp x L μ k (txE x L e) (st9 b5 b6 k x L e) i).2 = (arp x L μ k (txE x L e) (st9 b5 b6 k x L e) i).2 from if_neg (fun z => c126 (tf9_y z))] at hR0
                      have hR := hR0
                      have hne := c126
                      exact g_vret h hQ dX7_readLine_135 rfl (by exact ⟨(by first | (rw [hR]; exact (hvσ_9).trans (if_neg hne).symm) | (rw [hR]; exact (hvσ_9).trans (by rw [Nat.add_zero]; rfl)) | fail), (by first | (rw [hR]; exact (ht15000_σ_9).trans (congrArg nI c126)) | (rw [hR]; exact ht15000_σ_9) | fail), (by first | (rw [hR]; exact (ht15001_σ_9).trans (if_pos c126)) | (rw [hR]; exact ht15001_σ_9) | fail), (by first | exact ht15002_σ_9 | assumption | fail), (by first | (rw [hR]; exact (ht15005_σ_9).trans (congrArg nI (if_neg c126).symm)) | (rw [hR]; exact ht15005_σ_9) | fail), (by first | exact hcTX_σ_9 | assumption | fail), (by first | (intro z; rw [hR] at z; exact absurd z hne) | (intro _; rw [hR]; exact hcTC_σ_9) | fail), (by exact hcFR_σ_9)⟩)
                    ·
                      rw [show cl9 x L (arp x L μ k (txE x L e) (st9 b5 b6 k x L e) i).2 = txE x L (arp x L μ k (txE x L e) (st9 b5 b6 k x L e) i).2 from if_pos (tf9_0 c126), c126] at hR0
                      have hR := hR0
                      refine g_aload_n h dX7_readLine_129 0 rfl ?_
                      refine g_aload_n h dX7_readLine_130 1 rfl ?_
                      refine g_iload_n h dX7_readLine_131 2 rfl ?_
                      refine g_cvv (rest := []) h (c_carryOut hW k (txE x L e) L x m μ (by first | omega | decide | fail) (by first | exact hvσ_9 | assumption | fail) (by assumption) (by omega) (by first | omega | assumption | fail) (by assumption) (by exact hv1) (by exact hv2) (by exact hv3) (by first | exact hcNU_σ_9 | assumption | fail)) lX7_carryOut mX7_89 (Nat.lt_of_lt_of_le (by decide) (Nat.le_refl _)) (by decide) sc_15 rfl rfl rfl rfl dX7_readLine_132 (fun σ_10 eσ_10 => ?_)
                      obtain ⟨eσ_10_a, eσ_10_b⟩ := eσ_10
                      have eσ_10_a : vw (vb m) σ_10 = EF μ k (txV x L (txE x L e)) (txV x L (txE x L (txE x L e))) (txV x L (txE x L (txE x L (txE x L e)))) := eσ_10_a
                      have eσ_10_b : ∀ a, (a < vb m ∨ vb m + 464 ≤ a) → σ_10 a = σ_9 a := eσ_10_b
                      have ht15002_σ_10 : σ_10 15002 = (nI L) := by rw [eσ_10_b _ (by first | omega | (simp only [vb] at *; omega))]; first | exact ht15002_σ_9 | assumption
                      have ht15003_σ_10 : σ_10 15003 = (nI (txK x L ((arp x L μ k (txE x L e) (st9 b5 b6 k x L e) i).2))) := by rw [eσ_10_b _ (by first | omega | (simp only [vb] at *; omega))]; first | exact ht15003_σ_9 | assumption
                      have ht15004_σ_10 : σ_10 15004 = (nI (txS x L ((arp x L μ k (txE x L e) (st9 b5 b6 k x L e) i).2))) := by rw [eσ_10_b _ (by first | omega | (simp only [vb] at *; omega))]; first | exact ht15004_σ_9 | assumption
                      have ht15005_σ_10 : σ_10 15005 = (nI (txE x L ((arp x L μ k (txE x L e) (st9 b5 b6 k x L e) i).2))) := by rw [eσ_10_b _ (by first | omega | (simp only [vb] at *; omega))]; first | exact ht15005_σ_9 | assumption
                      have ht15000_σ_10 : σ_10 15000 = (nI (tf9 (txK x L ((arp x L μ k (txE x L e) (st9 b5 b6 k x L e) i).2)) 3)) := by rw [eσ_10_b _ (by first | omega | (simp only [vb] at *; omega))]; first | exact ht15000_σ_9 | assumption
                      have ht15001_σ_10 : σ_10 15001 = (if (tf9 (txK x L ((arp x L μ k (txE x L e) (st9 b5 b6 k x L e) i).2)) 3) = 0 then p0 else nI (txS x L ((arp x L μ k (txE x L e) (st9 b5 b6 k x L e) i).2))) := by rw [eσ_10_b _ (by first | omega | (simp only [vb] at *; omega))]; first | exact ht15001_σ_9 | assumption
                      have hcTX_σ_10 : TX 15600 σ_10 L x := by exact TX.fr hcTX_σ_9 (fun a ha hb => eσ_10_b a (by first | omega | (simp only [vb] at *; omega)))
                      have hcFR_σ_10 : ∀ a, ((a < vb m ∨ vb m + 464 ≤ a) ∧ (a < 15000 ∨ a = 15002 ∨ a = 15007 ∨ 15013 ≤ a)) → σ_10 a = σ a := by intro a ha; exact Eq.trans (b := σ_9 a) (eσ_10_b a (by first | omega | (simp only [vb] at *; omega))) (hcFR_σ_9 a ha)
                      have hcTC_σ_10 : TC σ_10 (b5 || decide (k = 5)) (b6 || decide (k = 6)) := by exact TC.fr hcTC_σ_9 (eσ_10_b _ (by first | omega | (simp only [vb] at *; omega)))
                      have hcNU_σ_10 : NU σ_10 x L (txE x L e) (na9 k) := by exact NU.fr hcNU_σ_9 (fun a ha hb => eσ_10_b a (by first | omega | (simp only [vb] at *; omega)))
                      obtain ⟨μ_11, eμ_11⟩ : ∃ μ_11 : Nat → Int32, μ_11 = EF μ k (txV x L (txE x L e)) (txV x L (txE x L (txE x L e))) (txV x L (txE x L (txE x L (txE x L e)))) := ⟨_, rfl⟩
                      have hvσ_10 : vw (vb m) σ_10 = μ_11 := by rw [eμ_11]; exact eσ_10_a
                      exact g_vret h hQ dX7_readLine_135 rfl (by exact ⟨(by first | (rw [hR]; exact (hvσ_10).trans (if_neg hne).symm) | (rw [hR]; exact (hvσ_10).trans (by rw [eμ_11]; rfl)) | fail), (by first | (rw [hR]; exact (ht15000_σ_10).trans (congrArg nI c126)) | (rw [hR]; exact ht15000_σ_10) | fail), (by first | (rw [hR]; exact (ht15001_σ_10).trans (if_pos c126)) | (rw [hR]; exact ht15001_σ_10) | fail), (by first | exact ht15002_σ_10 | assumption | fail), (by first | (rw [hR]; exact (ht15005_σ_10).trans (congrArg nI (if_neg c126).symm)) | (rw [hR]; exact ht15005_σ_10) | fail), (by first | exact hcTX_σ_10 | assumption | fail), (by first | (intro z; rw [hR] at z; exact absurd z hne) | (intro _; rw [hR]; exact hcTC_σ_10) | fail), (by exact hcFR_σ_10)⟩)
                ·
                  refine g_aload_n h dX7_readLine_90 0 rfl ?_
                  refine g_geti h dX7_readLine_91 gX7_46 sc_15 rfl ?_
                  refine g_top (y := (nI ((arp x L μ k (txE x L e) (st9 b5 b6 k x L e) i).1))) (by first | exact ht15000_τ | assumption) ?_
                  refine g_ifN_ne h dX7_readLine_94 (by omega) (fun c94 => ?_) (fun c94 => ?_)
                  ·
                    obtain ⟨hLa, hLb⟩ := arp_ln (μ := μ) (b5 := b5) (b6 := b6) hK1 hn hi3 (Or.inr c94)
                    have hR := hLa c94
                    have hne := c94
                    refine g_aload_n h dX7_readLine_110 0 rfl ?_
                    refine g_geti h dX7_readLine_111 gX7_46 sc_15 rfl ?_
                    refine g_top (y := (nI ((arp x L μ k (txE x L e) (st9 b5 b6 k x L e) i).1))) (by first | exact ht15000_τ | assumption) ?_
                    refine g_ifN_ne h dX7_readLine_114 (by omega) (fun c114 => ?_) (fun c114 => absurd c114 c94)
                    refine g_aload_n h dX7_readLine_122 0 rfl ?_
                    refine g_geti h dX7_readLine_123 gX7_46 sc_15 rfl ?_
                    refine g_top (y := (nI ((arp x L μ k (txE x L e) (st9 b5 b6 k x L e) i).1))) (by first | exact ht15000_τ | assumption) ?_
                    refine g_ifN_ne h dX7_readLine_126 (by omega) (fun c126 => ?_) (fun c126 => absurd c126 c94)
                    exact g_vret h hQ dX7_readLine_135 rfl (by exact ⟨(by first | (rw [hR]; exact (hvτ).trans (if_neg hne).symm) | (rw [hR]; exact (hvτ).trans (by rw [Nat.add_zero]; rfl)) | fail), (by first | (rw [hR]; exact (ht15000_τ).trans (congrArg nI c126)) | (rw [hR]; exact ht15000_τ) | fail), (by first | (rw [hR]; exact (ht15001_τ).trans (if_pos c126)) | (rw [hR]; exact ht15001_τ) | fail), (by first | exact ht15002_τ | assumption | fail), (by first | (rw [hR]; exact (ht15005_τ).trans (congrArg nI (if_neg c126).symm)) | (rw [hR]; exact ht15005_τ) | fail), (by first | exact hcTX_τ | assumption | fail), (by first | (intro z; rw [hR] at z; exact absurd z hne) | (intro _; rw [hR]; exact hcTC_τ) | fail), (by exact hcFR_τ)⟩)
                  ·
                    have hs9 : (st9 b5 b6 k x L e) = (0, (txE x L e)) := st9_0 (arp_0 i c94)
                    have hp9 : (arp x L μ k (txE x L e) (st9 b5 b6 k x L e) i).2 = nps x L (txE x L e) i := arp_f hs9 i c94
                    obtain ⟨hs1, hs2, hs3⟩ := arp_s (x := x) (L := L) (μ := μ) (k := k) (e := (txE x L e)) (s := (st9 b5 b6 k x L e)) (i := i) (p0 := p0) c94
                    have hK0 : 1 ≤ i → txK x L (txE x L e) = 2 := fun z => arp_K hs9 (i - 1) (by rw [show i - 1 + 1 = i from by omega]; exact c94)
                    have hnb := nps_b (x := x) (L := L) (e := (txE x L e)) hb.2.2 i
                    have hai : aI x L (txE x L e) i < 1000 := by unfold aI; split; omega; exact txV_lt (hK0 (by omega))
                    have ht15000_τ : τ 15000 = (nI 0) := by rw [ht15000_τ, c94]
                    have ht15001_τ : τ 15001 = p0 := by rw [ht15001_τ, if_pos c94]
                    have ht15005_τ : τ 15005 = (nI (nps x L (txE x L e) i)) := by rw [ht15005_τ, if_pos c94, hp9]
                    have hcNU_τ : NU τ x L (txE x L e) i := hNU c94
                    refine g_aload_n h dX7_readLine_97 0 rfl ?_
                    refine g_aload_n h dX7_readLine_98 1 rfl ?_
                    refine g_iload_n h dX7_readLine_99 2 rfl ?_
                    refine g_iload_n h dX7_readLine_100 3 rfl ?_
                    refine g_cvv (rest := []) h (c_readNumber hW k i (aI x L (txE x L e) i) (txE x L e) L x p0 m μ (by exact hnb) (by first | omega | assumption | fail) (by assumption) (by first | omega | decide | fail) (by first | exact hvτ | assumption | fail) (by omega) (by omega) (by intro z; exact if_neg (by omega)) (by exact hai) (by first | exact ht15000_τ | assumption | fail) (by first | exact ht15001_τ | assumption | fail) (by first | exact ht15002_τ | assumption | fail) (by first | exact ht15005_τ | assumption | fail) (by first | exact hcTX_τ | assumption | fail) (by first | exact hcNU_τ | assumption | fail)) lX7_readNumber mX7_82 (Nat.lt_of_lt_of_le (by decide) (Nat.le_refl _)) (by decide) sc_15 rfl rfl rfl rfl dX7_readLine_101 (fun σr eσr => ?_)
                    obtain ⟨eσr_a, eσr_b, eσr_c, eσr_d, eσr_e, eσr_f, eσr_g, eσr_h, eσr_i⟩ := eσr
                    have eσr_a : σr 15002 = (nI L) := eσr_a
                    have eσr_b : σr 15003 = (nI (txK x L (nps x L (txE x L e) i))) := eσr_b
                    have eσr_c : σr 15004 = (nI (txS x L (nps x L (txE x L e) i))) := eσr_c
                    have eσr_d : σr 15005 = (nI (txE x L (nps x L (txE x L e) i))) := eσr_d
                    have eσr_e : σr 15000 = (nI (af9 x L μ k i (aI x L (txE x L e) i) (nps x L (txE x L e) i))) := eσr_e
                    have eσr_f : σr 15001 = (if af9 x L μ k i (aI x L (txE x L e) i) (nps x L (txE x L e) i) = 0 then p0 else nI (txS x L (nps x L (txE x L e) i))) := eσr_f
                    have eσr_g : TX 15600 σr L x := eσr_g
                    have eσr_h : af9 x L μ k i (aI x L (txE x L e) i) (nps x L (txE x L e) i) = 0 → NU σr x L (txE x L e) (i + 1) := eσr_h
                    have eσr_i : ∀ a, (a ≠ 15000 ∧ a ≠ 15001 ∧ (a < 15003 ∨ 15005 < a) ∧ (a < 15010 ∨ 15013 ≤ a)) → σr a = (τ) a := eσr_i
                    have ht15002_σr : σr 15002 = (nI L) := eσr_a
                    have ht15003_σr : σr 15003 = (nI (txK x L (nps x L (txE x L e) i))) := eσr_b
                    have ht15004_σr : σr 15004 = (nI (txS x L (nps x L (txE x L e) i))) := eσr_c
                    have ht15005_σr : σr 15005 = (nI (txE x L (nps x L (txE x L e) i))) := eσr_d
                    have ht15000_σr : σr 15000 = (nI (af9 x L μ k i (aI x L (txE x L e) i) (nps x L (txE x L e) i))) := eσr_e
                    have ht15001_σr : σr 15001 = (if af9 x L μ k i (aI x L (txE x L e) i) (nps x L (txE x L e) i) = 0 then p0 else nI (txS x L (nps x L (txE x L e) i))) := eσr_f
                    have hcTX_σr : TX 15600 σr L x := eσr_g
                    have hcFR_σr : ∀ a, ((a < vb m ∨ vb m + 464 ≤ a) ∧ (a < 15000 ∨ a = 15002 ∨ a = 15007 ∨ 15013 ≤ a)) → σr a = σ a := by intro a ha; exact Eq.trans (b := (τ) a) (eσr_i a (by first | omega | (simp only [vb] at *; omega))) (hcFR_τ a ha)
                    have hcTC_σr : TC σr (b5 || decide (k = 5)) (b6 || decide (k = 6)) := by exact TC.fr hcTC_τ (eσr_i _ (by first | omega | (simp only [vb] at *; omega)))
                    have hvσr : vw (vb m) σr = μ := by rw [vw_fr (σ := (τ)) (fun j _ _ => eσr_i _ (by first | omega | (simp only [vb] at *; omega)))]; first | exact hvτ | assumption
                    refine g_iincN (b := 1) (L' := [(0, .ref (w.1 15)), (1, .ref (w.1 (mc m 0))), (2, .int (nI (k + 1))), (3, .int (nI (i + 1)))]) h dX7_readLine_104 3 rfl rfl (by decide) (by decide) rfl ?_
                    refine g_goto h dX7_readLine_107 ?_
                    exact ih82 (i + 1) σr (by omega) (by intro z; exact eσr_h (by rw [← hp9]; exact hs1.symm.trans z)) (by first | exact hvσr | assumption | fail | fail) (by first | exact ht15002_σr | assumption | fail | fail) (by rw [hs2, hp9]; exact ht15005_σr) (by rw [hs1, hp9]; exact ht15000_σr) (by rw [hs3, hp9]; exact ht15001_σr) (by first | exact hcTX_σr | assumption | fail | fail) (by first | exact hcFR_σr | assumption | fail | fail) (by first | exact hcTC_σr | assumption | fail | fail) (by omega)
            exact lp82 (_) 0 σt (by omega) (by intro _ j hj; omega) (by first | exact hvσt | assumption | fail | fail) (by first | exact ht15002_σt | assumption | fail | fail) (by rw [show (arp x L μ k (txE x L e) (st9 b5 b6 k x L e) 0) = (st9 b5 b6 k x L e) from rfl, hst]; exact ht15005_σt) (by rw [show (arp x L μ k (txE x L e) (st9 b5 b6 k x L e) 0) = (st9 b5 b6 k x L e) from rfl, hst]; exact ht15000_σt) (by rw [show (arp x L μ k (txE x L e) (st9 b5 b6 k x L e) 0) = (st9 b5 b6 k x L e) from rfl, hst]; exact ht15001_σt) (by first | exact hcTX_σt | assumption | fail | fail) (by first | exact hcFR_σt | assumption | fail | fail) (by first | exact hcTC_σt | assumption | fail | fail) (Nat.lt_succ_self _)
        ·
          refine g_iload_n h dX7_readLine_45 2 rfl ?_
          refine g_bipush h dX7_readLine_46 (by decide) ?_
          refine g_icmpN_ne h dX7_readLine_48 (by omega) (by omega) (fun c48 => ?_) (fun c48 => ?_)
          ·
            have htn : ¬ told9 b5 b6 k = true := td_n2 (by omega) (by omega)
            have hst : (st9 b5 b6 k x L e) = (0, (txE x L e)) := if_neg htn
            have hTC0 := hcTC_σ
            have hsl : (st9 b5 b6 k x L e).1 < 10 := by rw [hst]; first | exact (show (0 : Nat) < 10 by decide) | exact (show (5 : Nat) < 10 by decide)
            have hsb : (st9 b5 b6 k x L e).2 ≤ L := by rw [hst]; first | exact hb.2.2 | exact he
            obtain ⟨n3, n1, -⟩ := na9_i (k := k)
            refine g_aload_n h dX7_readLine_67 0 rfl ?_
            refine g_aload_n h dX7_readLine_68 0 rfl ?_
            refine g_geti h dX7_readLine_69 gX7_40 sc_15 rfl ?_
            refine g_iload_n h dX7_readLine_72 2 rfl ?_
            refine g_iconst h dX7_readLine_73 (by decide) ?_
            refine g_cspi (rest := [.ref (w.1 15)]) h (c_with hW (σ 15006) (k + 1) true ) lX5_with mX7_74 (Nat.lt_of_lt_of_le (by decide) (Nat.le_refl _)) (by decide) rfl rfl rfl dX7_readLine_74 ?_
            refine g_puti h dX7_readLine_77 pX7_40 sc_15 rfl ?_
            refine g_nm (fun σt eσt => ?_)
            have eσt : σt = upd σ 15006 (wth (σ 15006) (k + 1) true) := eσt
            have ht15002_σt : σt 15002 = (nI L) := by rw [eσt, upd_ne (by first | omega | (simp only [vb] at *; omega))]; first | exact ht15002_σ | assumption
            have ht15003_σt : σt 15003 = (nI (txK x L e)) := by rw [eσt, upd_ne (by first | omega | (simp only [vb] at *; omega))]; first | exact ht15003_σ | assumption
            have ht15004_σt : σt 15004 = (nI (txS x L e)) := by rw [eσt, upd_ne (by first | omega | (simp only [vb] at *; omega))]; first | exact ht15004_σ | assumption
            have ht15005_σt : σt 15005 = (nI (txE x L e)) := by rw [eσt, upd_ne (by first | omega | (simp only [vb] at *; omega))]; first | exact ht15005_σ | assumption
            have ht15000_σt : σt 15000 = (nI 0) := by rw [eσt, upd_ne (by first | omega | (simp only [vb] at *; omega))]; first | exact ht15000_σ | assumption
            have ht15001_σt : σt 15001 = p0 := by rw [eσt, upd_ne (by first | omega | (simp only [vb] at *; omega))]; first | exact ht15001_σ | assumption
            have hcTX_σt : TX 15600 σt L x := by rw [eσt]; exact TX.fr hcTX_σ (fun a ha hb => upd_ne (by first | omega | (simp only [vb] at *; omega)))
            have hcFR_σt : ∀ a, ((a < vb m ∨ vb m + 464 ≤ a) ∧ (a < 15000 ∨ a = 15002 ∨ a = 15007 ∨ 15013 ≤ a)) → σt a = σ a := by intro a ha; exact Eq.trans (b := σ a) (by rw [eσt, upd_ne (by first | omega | (simp only [vb] at *; omega))]) (hcFR_σ a ha)
            have hvσt : vw (vb m) σt = μ := by rw [eσt, vw_out (by first | omega | (simp only [vb] at *; omega))]; first | exact hv | assumption
            have hcTC_σt : TC σt (b5 || decide (k = 5)) (b6 || decide (k = 6)) := tc_s hTC0 hk8 eσt
            refine g_iconst h dX7_readLine_80 (by decide) ?_
            refine g_istore_n (L' := [(0, .ref (w.1 15)), (1, .ref (w.1 (mc m 0))), (2, .int (nI (k + 1))), (3, .int (nI 0))]) h dX7_readLine_81 rfl (by decide) rfl ?_
            have lp82 : ∀ (k9 : Nat) (i : Nat) (τ : Mem), (i ≤ na9 k) → ((arp x L μ k (txE x L e) (st9 b5 b6 k x L e) i).1 = 0 → NU τ x L (txE x L e) i) → (vw (vb m) τ = μ) → (τ 15002 = (nI L)) → (τ 15005 = (nI (if (arp x L μ k (txE x L e) (st9 b5 b6 k x L e) i).1 = 0 then (arp x L μ k (txE x L e) (st9 b5 b6 k x L e) i).2 else txE x L (arp x L μ k (txE x L e) (st9 b5 b6 k x L e) i).2))) → (τ 15000 = (nI ((arp x L μ k (txE x L e) (st9 b5 b6 k x L e) i).1))) → (τ 15001 = (if (arp x L μ k (txE x L e) (st9 b5 b6 k x L e) i).1 = 0 then p0 else nI (txS x L (arp x L μ k (txE x L e) (st9 b5 b6 k x L e) i).2))) → (TX 15600 τ L x) → (∀ a, ((a < vb m ∨ vb m + 464 ≤ a) ∧ (a < 15000 ∨ a = 15002 ∨ a = 15007 ∨ 15013 ≤ a)) → τ a = σ a) → (TC τ (b5 || decide (k = 5)) (b6 || decide (k = 6))) → na9 k - i < k9 → G X w 4 82 [(0, .ref (w.1 15)), (1, .ref (w.1 (mc m 0))), (2, .int (nI (k + 1))), (3, .int (nI i))] [] (τ) := by
              intro k9
              induction k9 with
              | zero => intro i τ hi3 hNU hvτ ht15002_τ ht15005_τ ht15000_τ ht15001_τ hcTX_τ hcFR_τ hcTC_τ hm9; exact absurd hm9 (Nat.not_lt_zero _)
              | succ k9 ih82 =>
                intro i τ hi3 hNU hvτ ht15002_τ ht15005_τ ht15000_τ ht15001_τ hcTX_τ hcFR_τ hcTC_τ hm82
                have hal := arp_lt (x := x) (L := L) (μ := μ) (k := k) (e := (txE x L e)) (s := (st9 b5 b6 k x L e)) hsl i
                have hab := arp_b (x := x) (L := L) (μ := μ) (k := k) (e := (txE x L e)) (s := (st9 b5 b6 k x L e)) hsb i
                refine g_iload_n h dX7_readLine_82 3 rfl ?_
                refine g_iload_n h dX7_readLine_83 2 rfl ?_
                refine g_cspi (rest := [.int (nI i)]) h (c_numbersOf hW k (by omega)) lX7_numbersOf mX7_78 (Nat.lt_of_lt_of_le (by decide) (Nat.le_refl _)) (by decide) rfl rfl rfl dX7_readLine_84 ?_
                refine g_icmpN_ge h dX7_readLine_87 (by omega) (by omega) (fun c87 => ?_) (fun c87 => ?_)
                ·
                  obtain ⟨hLa, hLb⟩ := arp_ln (μ := μ) (b5 := b5) (b6 := b6) hK1 hn hi3 (Or.inl c87)
                  refine g_aload_n h dX7_readLine_110 0 rfl ?_
                  refine g_geti h dX7_readLine_111 gX7_46 sc_15 rfl ?_
                  refine g_top (y := (nI ((arp x L μ k (txE x L e) (st9 b5 b6 k x L e) i).1))) (by first | exact ht15000_τ | assumption) ?_
                  refine g_ifN_ne h dX7_readLine_114 (by omega) (fun c114 => ?_) (fun c114 => ?_)
                  ·
                    have hR := hLa c114
                    have hne := c114
                    refine g_aload_n h dX7_readLine_122 0 rfl ?_
                    refine g_geti h dX7_readLine_123 gX7_46 sc_15 rfl ?_
                    refine g_top (y := (nI ((arp x L μ k (txE x L e) (st9 b5 b6 k x L e) i).1))) (by first | exact ht15000_τ | assumption) ?_
                    refine g_ifN_ne h dX7_readLine_126 (by omega) (fun c126 => ?_) (fun c126 => absurd c126 c114)
                    exact g_vret h hQ dX7_readLine_135 rfl (by exact ⟨(by first | (rw [hR]; exact (hvτ).trans (if_neg hne).symm) | (rw [hR]; exact (hvτ).trans (by rw [Nat.add_zero]; rfl)) | fail), (by first | (rw [hR]; exact (ht15000_τ).trans (congrArg nI c126)) | (rw [hR]; exact ht15000_τ) | fail), (by first | (rw [hR]; exact (ht15001_τ).trans (if_pos c126)) | (rw [hR]; exact ht15001_τ) | fail), (by first | exact ht15002_τ | assumption | fail), (by first | (rw [hR]; exact (ht15005_τ).trans (congrArg nI (if_neg c126).symm)) | (rw [hR]; exact ht15005_τ) | fail), (by first | exact hcTX_τ | assumption | fail), (by first | (intro z; rw [hR] at z; exact absurd z hne) | (intro _; rw [hR]; exact hcTC_τ) | fail), (by exact hcFR_τ)⟩)
                  ·
                    obtain ⟨hq0, hR0⟩ := hLb c114
                    have hs9 : (st9 b5 b6 k x L e) = (0, (txE x L e)) := st9_0 (arp_0 i c114)
                    have hK0 : txK x L (txE x L e) = 2 := arp_K hs9 (i - 1) (by rw [show i - 1 + 1 = i from by omega]; exact c114)
                    obtain ⟨hv1, hv2, hv3⟩ := ar9_v hq0
                    have htf := tf9_lt (K := txK x L (arp x L μ k (txE x L e) (st9 b5 b6 k x L e) i).2) (q := 3)
                    have ht15000_τ : τ 15000 = (nI 0) := by rw [ht15000_τ, c114]
                    have ht15001_τ : τ 15001 = p0 := by rw [ht15001_τ, if_pos c114]
                    have ht15005_τ : τ 15005 = (nI ((arp x L μ k (txE x L e) (st9 b5 b6 k x L e) i).2)) := by rw [ht15005_τ, if_pos c114]
                    have hcNU_τ : NU τ x L (txE x L e) (na9 k) := by rw [show na9 k = i from by omega]; exact hNU c114
                    refine g_aload_n h dX7_readLine_117 0 rfl ?_
                    refine g_iconst h dX7_readLine_118 (by decide) ?_
                    refine g_cvv (rest := []) h (c_expect hW 3 ((arp x L μ k (txE x L e) (st9 b5 b6 k x L e) i).2) L x p0 (by exact hab) (by first | omega | assumption | fail) (by omega) (by first | exact ht15000_τ | assumption | fail) (by first | exact ht15001_τ | assumption | fail) (by first | exact ht15002_τ | assumption | fail) (by first | exact ht15005_τ | assumption | fail) (by first | exact hcTX_τ | assumption | fail)) lX7_expect mX7_86 (Nat.lt_of_lt_of_le (by decide) (Nat.le_refl _)) (by decide) sc_15 rfl rfl rfl rfl dX7_readLine_119 (fun σ_12 eσ_12 => ?_)
                    obtain ⟨eσ_12_a, eσ_12_b, eσ_12_c, eσ_12_d, eσ_12_e, eσ_12_f, eσ_12_g, eσ_12_h⟩ := eσ_12
                    have eσ_12_a : σ_12 15002 = (nI L) := eσ_12_a
                    have eσ_12_b : σ_12 15003 = (nI (txK x L ((arp x L μ k (txE x L e) (st9 b5 b6 k x L e) i).2))) := eσ_12_b
                    have eσ_12_c : σ_12 15004 = (nI (txS x L ((arp x L μ k (txE x L e) (st9 b5 b6 k x L e) i).2))) := eσ_12_c
                    have eσ_12_d : σ_12 15005 = (nI (txE x L ((arp x L μ k (txE x L e) (st9 b5 b6 k x L e) i).2))) := eσ_12_d
                    have eσ_12_e : σ_12 15000 = (nI (tf9 (txK x L ((arp x L μ k (txE x L e) (st9 b5 b6 k x L e) i).2)) 3)) := eσ_12_e
                    have eσ_12_f : σ_12 15001 = (if (tf9 (txK x L ((arp x L μ k (txE x L e) (st9 b5 b6 k x L e) i).2)) 3) = 0 then p0 else nI (txS x L ((arp x L μ k (txE x L e) (st9 b5 b6 k x L e) i).2))) := eσ_12_f
                    have eσ_12_g : TX 15600 σ_12 L x := eσ_12_g
                    have eσ_12_h : ∀ a, (a ≠ 15000 ∧ a ≠ 15001 ∧ (a < 15003 ∨ 15005 < a)) → σ_12 a = (τ) a := eσ_12_h
                    have ht15002_σ_12 : σ_12 15002 = (nI L) := eσ_12_a
                    have ht15003_σ_12 : σ_12 15003 = (nI (txK x L ((arp x L μ k (txE x L e) (st9 b5 b6 k x L e) i).2))) := eσ_12_b
                    have ht15004_σ_12 : σ_12 15004 = (nI (txS x L ((arp x L μ k (txE x L e) (st9 b5 b6 k x L e) i).2))) := eσ_12_c
                    have ht15005_σ_12 : σ_12 15005 = (nI (txE x L ((arp x L μ k (txE x L e) (st9 b5 b6 k x L e) i).2))) := eσ_12_d
                    have ht15000_σ_12 : σ_12 15000 = (nI (tf9 (txK x L ((arp x L μ k (txE x L e) (st9 b5 b6 k x L e) i).2)) 3)) := eσ_12_e
                    have ht15001_σ_12 : σ_12 15001 = (if (tf9 (txK x L ((arp x L μ k (txE x L e) (st9 b5 b6 k x L e) i).2)) 3) = 0 then p0 else nI (txS x L ((arp x L μ k (txE x L e) (st9 b5 b6 k x L e) i).2))) := eσ_12_f
                    have hcTX_σ_12 : TX 15600 σ_12 L x := eσ_12_g
                    have hcFR_σ_12 : ∀ a, ((a < vb m ∨ vb m + 464 ≤ a) ∧ (a < 15000 ∨ a = 15002 ∨ a = 15007 ∨ 15013 ≤ a)) → σ_12 a = σ a := by intro a ha; exact Eq.trans (b := (τ) a) (eσ_12_h a (by first | omega | (simp only [vb] at *; omega))) (hcFR_τ a ha)
                    have hcTC_σ_12 : TC σ_12 (b5 || decide (k = 5)) (b6 || decide (k = 6)) := by exact TC.fr hcTC_τ (eσ_12_h _ (by first | omega | (simp only [vb] at *; omega)))
                    have hcNU_σ_12 : NU σ_12 x L (txE x L e) (na9 k) := by exact NU.fr hcNU_τ (fun a ha hb => eσ_12_h a (by first | omega | (simp only [vb] at *; omega)))
                    have hvσ_12 : vw (vb m) σ_12 = μ := by rw [vw_fr (σ := (τ)) (fun j _ _ => eσ_12_h _ (by first | omega | (simp only [vb] at *; omega)))]; first | exact hvτ | assumption
                    refine g_aload_n h dX7_readLine_122 0 rfl ?_
                    refine g_geti h dX7_readLine_123 gX7_46 sc_15 rfl ?_
                    refine g_top (y := (nI (tf9 (txK x L ((arp x L μ k (txE x L e) (st9 b5 b6 k x L e) i).2)) 3))) (by first | exact ht15000_σ_12 | assumption) ?_
                    refine g_ifN_ne h dX7_readLine_126 (by omega) (fun c126 => ?_) (fun c126 => ?_)
                    ·
                      rw [show cl9 x L (arp x L μ k (txE x L e) (st9 b5 b6 k x L e) i).2 = (arp x L μ k (txE x L e) (st9 b5 b6 k x L e) i).2 from if_neg (fun z => c126 (tf9_y z))] at hR0
                      have hR := hR0
                      have hne := c126
                      exact g_vret h hQ dX7_readLine_135 rfl (by exact ⟨(by first | (rw [hR]; exact (hvσ_12).trans (if_neg hne).symm) | (rw [hR]; exact (hvσ_12).trans (by rw [Nat.add_zero]; rfl)) | fail), (by first | (rw [hR]; exact (ht15000_σ_12).trans (congrArg nI c126)) | (rw [hR]; exact ht15000_σ_12) | fail), (by first | (rw [hR]; exact (ht15001_σ_12).trans (if_pos c126)) | (rw [hR]; exact ht15001_σ_12) | fail), (by first | exact ht15002_σ_12 | assumption | fail), (by first | (rw [hR]; exact (ht15005_σ_12).trans (congrArg nI (if_neg c126).symm)) | (rw [hR]; exact ht15005_σ_12) | fail), (by first | exact hcTX_σ_12 | assumption | fail), (by first | (intro z; rw [hR] at z; exact absurd z hne) | (intro _; rw [hR]; exact hcTC_σ_12) | fail), (by exact hcFR_σ_12)⟩)
                    ·
                      rw [show cl9 x L (arp x L μ k (txE x L e) (st9 b5 b6 k x L e) i).2 = txE x L (arp x L μ k (txE x L e) (st9 b5 b6 k x L e) i).2 from if_pos (tf9_0 c126), c126] at hR0
                      have hR := hR0
                      refine g_aload_n h dX7_readLine_129 0 rfl ?_
                      refine g_aload_n h dX7_readLine_130 1 rfl ?_
                      refine g_iload_n h dX7_readLine_131 2 rfl ?_
                      refine g_cvv (rest := []) h (c_carryOut hW k (txE x L e) L x m μ (by first | omega | decide | fail) (by first | exact hvσ_12 | assumption | fail) (by assumption) (by omega) (by first | omega | assumption | fail) (by assumption) (by exact hv1) (by exact hv2) (by exact hv3) (by first | exact hcNU_σ_12 | assumption | fail)) lX7_carryOut mX7_89 (Nat.lt_of_lt_of_le (by decide) (Nat.le_refl _)) (by decide) sc_15 rfl rfl rfl rfl dX7_readLine_132 (fun σ_13 eσ_13 => ?_)
                      obtain ⟨eσ_13_a, eσ_13_b⟩ := eσ_13
                      have eσ_13_a : vw (vb m) σ_13 = EF μ k (txV x L (txE x L e)) (txV x L (txE x L (txE x L e))) (txV x L (txE x L (txE x L (txE x L e)))) := eσ_13_a
                      have eσ_13_b : ∀ a, (a < vb m ∨ vb m + 464 ≤ a) → σ_13 a = σ_12 a := eσ_13_b
                      have ht15002_σ_13 : σ_13 15002 = (nI L) := by rw [eσ_13_b _ (by first | omega | (simp only [vb] at *; omega))]; first | exact ht15002_σ_12 | assumption
                      have ht15003_σ_13 : σ_13 15003 = (nI (txK x L ((arp x L μ k (txE x L e) (st9 b5 b6 k x L e) i).2))) := by rw [eσ_13_b _ (by first | omega | (simp only [vb] at *; omega))]; first | exact ht15003_σ_12 | assumption
                      have ht15004_σ_13 : σ_13 15004 = (nI (txS x L ((arp x L μ k (txE x L e) (st9 b5 b6 k x L e) i).2))) := by rw [eσ_13_b _ (by first | omega | (simp only [vb] at *; omega))]; first | exact ht15004_σ_12 | assumption
                      have ht15005_σ_13 : σ_13 15005 = (nI (txE x L ((arp x L μ k (txE x L e) (st9 b5 b6 k x L e) i).2))) := by rw [eσ_13_b _ (by first | omega | (simp only [vb] at *; omega))]; first | exact ht15005_σ_12 | assumption
                      have ht15000_σ_13 : σ_13 15000 = (nI (tf9 (txK x L ((arp x L μ k (txE x L e) (st9 b5 b6 k x L e) i).2)) 3)) := by rw [eσ_13_b _ (by first | omega | (simp only [vb] at *; omega))]; first | exact ht15000_σ_12 | assumption
                      have ht15001_σ_13 : σ_13 15001 = (if (tf9 (txK x L ((arp x L μ k (txE x L e) (st9 b5 b6 k x L e) i).2)) 3) = 0 then p0 else nI (txS x L ((arp x L μ k (txE x L e) (st9 b5 b6 k x L e) i).2))) := by rw [eσ_13_b _ (by first | omega | (simp only [vb] at *; omega))]; first | exact ht15001_σ_12 | assumption
                      have hcTX_σ_13 : TX 15600 σ_13 L x := by exact TX.fr hcTX_σ_12 (fun a ha hb => eσ_13_b a (by first | omega | (simp only [vb] at *; omega)))
                      have hcFR_σ_13 : ∀ a, ((a < vb m ∨ vb m + 464 ≤ a) ∧ (a < 15000 ∨ a = 15002 ∨ a = 15007 ∨ 15013 ≤ a)) → σ_13 a = σ a := by intro a ha; exact Eq.trans (b := σ_12 a) (eσ_13_b a (by first | omega | (simp only [vb] at *; omega))) (hcFR_σ_12 a ha)
                      have hcTC_σ_13 : TC σ_13 (b5 || decide (k = 5)) (b6 || decide (k = 6)) := by exact TC.fr hcTC_σ_12 (eσ_13_b _ (by first | omega | (simp only [vb] at *; omega)))
                      have hcNU_σ_13 : NU σ_13 x L (txE x L e) (na9 k) := by exact NU.fr hcNU_σ_12 (fun a ha hb => eσ_13_b a (by first | omega | (simp only [vb] at *; omega)))
                      obtain ⟨μ_14, eμ_14⟩ : ∃ μ_14 : Nat → Int32, μ_14 = EF μ k (txV x L (txE x L e)) (txV x L (txE x L (txE x L e))) (txV x L (txE x L (txE x L (txE x L e)))) := ⟨_, rfl⟩
                      have hvσ_13 : vw (vb m) σ_13 = μ_14 := by rw [eμ_14]; exact eσ_13_a
                      exact g_vret h hQ dX7_readLine_135 rfl (by exact ⟨(by first | (rw [hR]; exact (hvσ_13).trans (if_neg hne).symm) | (rw [hR]; exact (hvσ_13).trans (by rw [eμ_14]; rfl)) | fail), (by first | (rw [hR]; exact (ht15000_σ_13).trans (congrArg nI c126)) | (rw [hR]; exact ht15000_σ_13) | fail), (by first | (rw [hR]; exact (ht15001_σ_13).trans (if_pos c126)) | (rw [hR]; exact ht15001_σ_13) | fail), (by first | exact ht15002_σ_13 | assumption | fail), (by first | (rw [hR]; exact (ht15005_σ_13).trans (congrArg nI (if_neg c126).symm)) | (rw [hR]; exact ht15005_σ_13) | fail), (by first | exact hcTX_σ_13 | assumption | fail), (by first | (intro z; rw [hR] at z; exact absurd z hne) | (intro _; rw [hR]; exact hcTC_σ_13) | fail), (by exact hcFR_σ_13)⟩)
                ·
                  refine g_aload_n h dX7_readLine_90 0 rfl ?_
                  refine g_geti h dX7_readLine_91 gX7_46 sc_15 rfl ?_
                  refine g_top (y := (nI ((arp x L μ k (txE x L e) (st9 b5 b6 k x L e) i).1))) (by first | exact ht15000_τ | assumption) ?_
                  refine g_ifN_ne h dX7_readLine_94 (by omega) (fun c94 => ?_) (fun c94 => ?_)
                  ·
                    obtain ⟨hLa, hLb⟩ := arp_ln (μ := μ) (b5 := b5) (b6 := b6) hK1 hn hi3 (Or.inr c94)
                    have hR := hLa c94
                    have hne := c94
                    refine g_aload_n h dX7_readLine_110 0 rfl ?_
                    refine g_geti h dX7_readLine_111 gX7_46 sc_15 rfl ?_
                    refine g_top (y := (nI ((arp x L μ k (txE x L e) (st9 b5 b6 k x L e) i).1))) (by first | exact ht15000_τ | assumption) ?_
                    refine g_ifN_ne h dX7_readLine_114 (by omega) (fun c114 => ?_) (fun c114 => absurd c114 c94)
                    refine g_aload_n h dX7_readLine_122 0 rfl ?_
                    refine g_geti h dX7_readLine_123 gX7_46 sc_15 rfl ?_
                    refine g_top (y := (nI ((arp x L μ k (txE x L e) (st9 b5 b6 k x L e) i).1))) (by first | exact ht15000_τ | assumption) ?_
                    refine g_ifN_ne h dX7_readLine_126 (by omega) (fun c126 => ?_) (fun c126 => absurd c126 c94)
                    exact g_vret h hQ dX7_readLine_135 rfl (by exact ⟨(by first | (rw [hR]; exact (hvτ).trans (if_neg hne).symm) | (rw [hR]; exact (hvτ).trans (by rw [Nat.add_zero]; rfl)) | fail), (by first | (rw [hR]; exact (ht15000_τ).trans (congrArg nI c126)) | (rw [hR]; exact ht15000_τ) | fail), (by first | (rw [hR]; exact (ht15001_τ).trans (if_pos c126)) | (rw [hR]; exact ht15001_τ) | fail), (by first | exact ht15002_τ | assumption | fail), (by first | (rw [hR]; exact (ht15005_τ).trans (congrArg nI (if_neg c126).symm)) | (rw [hR]; exact ht15005_τ) | fail), (by first | exact hcTX_τ | assumption | fail), (by first | (intro z; rw [hR] at z; exact absurd z hne) | (intro _; rw [hR]; exact hcTC_τ) | fail), (by exact hcFR_τ)⟩)
                  ·
                    have hs9 : (st9 b5 b6 k x L e) = (0, (txE x L e)) := st9_0 (arp_0 i c94)
                    have hp9 : (arp x L μ k (txE x L e) (st9 b5 b6 k x L e) i).2 = nps x L (txE x L e) i := arp_f hs9 i c94
                    obtain ⟨hs1, hs2, hs3⟩ := arp_s (x := x) (L := L) (μ := μ) (k := k) (e := (txE x L e)) (s := (st9 b5 b6 k x L e)) (i := i) (p0 := p0) c94
                    have hK0 : 1 ≤ i → txK x L (txE x L e) = 2 := fun z => arp_K hs9 (i - 1) (by rw [show i - 1 + 1 = i from by omega]; exact c94)
                    have hnb := nps_b (x := x) (L := L) (e := (txE x L e)) hb.2.2 i
                    have hai : aI x L (txE x L e) i < 1000 := by unfold aI; split; omega; exact txV_lt (hK0 (by omega))
                    have ht15000_τ : τ 15000 = (nI 0) := by rw [ht15000_τ, c94]
                    have ht15001_τ : τ 15001 = p0 := by rw [ht15001_τ, if_pos c94]
                    have ht15005_τ : τ 15005 = (nI (nps x L (txE x L e) i)) := by rw [ht15005_τ, if_pos c94, hp9]
                    have hcNU_τ : NU τ x L (txE x L e) i := hNU c94
                    refine g_aload_n h dX7_readLine_97 0 rfl ?_
                    refine g_aload_n h dX7_readLine_98 1 rfl ?_
                    refine g_iload_n h dX7_readLine_99 2 rfl ?_
                    refine g_iload_n h dX7_readLine_100 3 rfl ?_
                    refine g_cvv (rest := []) h (c_readNumber hW k i (aI x L (txE x L e) i) (txE x L e) L x p0 m μ (by exact hnb) (by first | omega | assumption | fail) (by assumption) (by first | omega | decide | fail) (by first | exact hvτ | assumption | fail) (by omega) (by omega) (by intro z; exact if_neg (by omega)) (by exact hai) (by first | exact ht15000_τ | assumption | fail) (by first | exact ht15001_τ | assumption | fail) (by first | exact ht15002_τ | assumption | fail) (by first | exact ht15005_τ | assumption | fail) (by first | exact hcTX_τ | assumption | fail) (by first | exact hcNU_τ | assumption | fail)) lX7_readNumber mX7_82 (Nat.lt_of_lt_of_le (by decide) (Nat.le_refl _)) (by decide) sc_15 rfl rfl rfl rfl dX7_readLine_101 (fun σr eσr => ?_)
                    obtain ⟨eσr_a, eσr_b, eσr_c, eσr_d, eσr_e, eσr_f, eσr_g, eσr_h, eσr_i⟩ := eσr
                    have eσr_a : σr 15002 = (nI L) := eσr_a
                    have eσr_b : σr 15003 = (nI (txK x L (nps x L (txE x L e) i))) := eσr_b
                    have eσr_c : σr 15004 = (nI (txS x L (nps x L (txE x L e) i))) := eσr_c
                    have eσr_d : σr 15005 = (nI (txE x L (nps x L (txE x L e) i))) := eσr_d
                    have eσr_e : σr 15000 = (nI (af9 x L μ k i (aI x L (txE x L e) i) (nps x L (txE x L e) i))) := eσr_e
                    have eσr_f : σr 15001 = (if af9 x L μ k i (aI x L (txE x L e) i) (nps x L (txE x L e) i) = 0 then p0 else nI (txS x L (nps x L (txE x L e) i))) := eσr_f
                    have eσr_g : TX 15600 σr L x := eσr_g
                    have eσr_h : af9 x L μ k i (aI x L (txE x L e) i) (nps x L (txE x L e) i) = 0 → NU σr x L (txE x L e) (i + 1) := eσr_h
                    have eσr_i : ∀ a, (a ≠ 15000 ∧ a ≠ 15001 ∧ (a < 15003 ∨ 15005 < a) ∧ (a < 15010 ∨ 15013 ≤ a)) → σr a = (τ) a := eσr_i
                    have ht15002_σr : σr 15002 = (nI L) := eσr_a
                    have ht15003_σr : σr 15003 = (nI (txK x L (nps x L (txE x L e) i))) := eσr_b
                    have ht15004_σr : σr 15004 = (nI (txS x L (nps x L (txE x L e) i))) := eσr_c
                    have ht15005_σr : σr 15005 = (nI (txE x L (nps x L (txE x L e) i))) := eσr_d
                    have ht15000_σr : σr 15000 = (nI (af9 x L μ k i (aI x L (txE x L e) i) (nps x L (txE x L e) i))) := eσr_e
                    have ht15001_σr : σr 15001 = (if af9 x L μ k i (aI x L (txE x L e) i) (nps x L (txE x L e) i) = 0 then p0 else nI (txS x L (nps x L (txE x L e) i))) := eσr_f
                    have hcTX_σr : TX 15600 σr L x := eσr_g
                    have hcFR_σr : ∀ a, ((a < vb m ∨ vb m + 464 ≤ a) ∧ (a < 15000 ∨ a = 15002 ∨ a = 15007 ∨ 15013 ≤ a)) → σr a = σ a := by intro a ha; exact Eq.trans (b := (τ) a) (eσr_i a (by first | omega | (simp only [vb] at *; omega))) (hcFR_τ a ha)
                    have hcTC_σr : TC σr (b5 || decide (k = 5)) (b6 || decide (k = 6)) := by exact TC.fr hcTC_τ (eσr_i _ (by first | omega | (simp only [vb] at *; omega)))
                    have hvσr : vw (vb m) σr = μ := by rw [vw_fr (σ := (τ)) (fun j _ _ => eσr_i _ (by first | omega | (simp only [vb] at *; omega)))]; first | exact hvτ | assumption
                    refine g_iincN (b := 1) (L' := [(0, .ref (w.1 15)), (1, .ref (w.1 (mc m 0))), (2, .int (nI (k + 1))), (3, .int (nI (i + 1)))]) h dX7_readLine_104 3 rfl rfl (by decide) (by decide) rfl ?_
                    refine g_goto h dX7_readLine_107 ?_
                    exact ih82 (i + 1) σr (by omega) (by intro z; exact eσr_h (by rw [← hp9]; exact hs1.symm.trans z)) (by first | exact hvσr | assumption | fail | fail) (by first | exact ht15002_σr | assumption | fail | fail) (by rw [hs2, hp9]; exact ht15005_σr) (by rw [hs1, hp9]; exact ht15000_σr) (by rw [hs3, hp9]; exact ht15001_σr) (by first | exact hcTX_σr | assumption | fail | fail) (by first | exact hcFR_σr | assumption | fail | fail) (by first | exact hcTC_σr | assumption | fail | fail) (by omega)
            exact lp82 (_) 0 σt (by omega) (by intro _ j hj; omega) (by first | exact hvσt | assumption | fail | fail) (by first | exact ht15002_σt | assumption | fail | fail) (by rw [show (arp x L μ k (txE x L e) (st9 b5 b6 k x L e) 0) = (st9 b5 b6 k x L e) from rfl, hst]; exact ht15005_σt) (by rw [show (arp x L μ k (txE x L e) (st9 b5 b6 k x L e) 0) = (st9 b5 b6 k x L e) from rfl, hst]; exact ht15000_σt) (by rw [show (arp x L μ k (txE x L e) (st9 b5 b6 k x L e) 0) = (st9 b5 b6 k x L e) from rfl, hst]; exact ht15001_σt) (by first | exact hcTX_σt | assumption | fail | fail) (by first | exact hcFR_σt | assumption | fail | fail) (by first | exact hcTC_σt | assumption | fail | fail) (Nat.lt_succ_self _)
          ·
            refine g_aload_n h dX7_readLine_51 0 rfl ?_
            refine g_geti h dX7_readLine_52 gX7_40 sc_15 rfl ?_
            refine g_iload_n h dX7_readLine_55 2 rfl ?_
            refine g_cspi (rest := []) h (c_has hW (σ 15006) (k + 1) (by omega)) lX5_has mX7_70 (Nat.lt_of_lt_of_le (by decide) (Nat.le_refl _)) (by decide) rfl rfl rfl dX7_readLine_56 ?_
            refine g_ifB_eq h dX7_readLine_59 (fun c59 => ?_) (fun c59 => ?_)
            ·
              have htn : ¬ told9 b5 b6 k = true := by first | exact tc_n hcTC_σ (Or.inl (by omega)) c59 | exact tc_n hcTC_σ (Or.inr (by omega)) c59
              have hst : (st9 b5 b6 k x L e) = (0, (txE x L e)) := if_neg htn
              have hTC0 := hcTC_σ
              have hsl : (st9 b5 b6 k x L e).1 < 10 := by rw [hst]; first | exact (show (0 : Nat) < 10 by decide) | exact (show (5 : Nat) < 10 by decide)
              have hsb : (st9 b5 b6 k x L e).2 ≤ L := by rw [hst]; first | exact hb.2.2 | exact he
              obtain ⟨n3, n1, -⟩ := na9_i (k := k)
              refine g_aload_n h dX7_readLine_67 0 rfl ?_
              refine g_aload_n h dX7_readLine_68 0 rfl ?_
              refine g_geti h dX7_readLine_69 gX7_40 sc_15 rfl ?_
              refine g_iload_n h dX7_readLine_72 2 rfl ?_
              refine g_iconst h dX7_readLine_73 (by decide) ?_
              refine g_cspi (rest := [.ref (w.1 15)]) h (c_with hW (σ 15006) (k + 1) true ) lX5_with mX7_74 (Nat.lt_of_lt_of_le (by decide) (Nat.le_refl _)) (by decide) rfl rfl rfl dX7_readLine_74 ?_
              refine g_puti h dX7_readLine_77 pX7_40 sc_15 rfl ?_
              refine g_nm (fun σt eσt => ?_)
              have eσt : σt = upd σ 15006 (wth (σ 15006) (k + 1) true) := eσt
              have ht15002_σt : σt 15002 = (nI L) := by rw [eσt, upd_ne (by first | omega | (simp only [vb] at *; omega))]; first | exact ht15002_σ | assumption
              have ht15003_σt : σt 15003 = (nI (txK x L e)) := by rw [eσt, upd_ne (by first | omega | (simp only [vb] at *; omega))]; first | exact ht15003_σ | assumption
              have ht15004_σt : σt 15004 = (nI (txS x L e)) := by rw [eσt, upd_ne (by first | omega | (simp only [vb] at *; omega))]; first | exact ht15004_σ | assumption
              have ht15005_σt : σt 15005 = (nI (txE x L e)) := by rw [eσt, upd_ne (by first | omega | (simp only [vb] at *; omega))]; first | exact ht15005_σ | assumption
              have ht15000_σt : σt 15000 = (nI 0) := by rw [eσt, upd_ne (by first | omega | (simp only [vb] at *; omega))]; first | exact ht15000_σ | assumption
              have ht15001_σt : σt 15001 = p0 := by rw [eσt, upd_ne (by first | omega | (simp only [vb] at *; omega))]; first | exact ht15001_σ | assumption
              have hcTX_σt : TX 15600 σt L x := by rw [eσt]; exact TX.fr hcTX_σ (fun a ha hb => upd_ne (by first | omega | (simp only [vb] at *; omega)))
              have hcFR_σt : ∀ a, ((a < vb m ∨ vb m + 464 ≤ a) ∧ (a < 15000 ∨ a = 15002 ∨ a = 15007 ∨ 15013 ≤ a)) → σt a = σ a := by intro a ha; exact Eq.trans (b := σ a) (by rw [eσt, upd_ne (by first | omega | (simp only [vb] at *; omega))]) (hcFR_σ a ha)
              have hvσt : vw (vb m) σt = μ := by rw [eσt, vw_out (by first | omega | (simp only [vb] at *; omega))]; first | exact hv | assumption
              have hcTC_σt : TC σt (b5 || decide (k = 5)) (b6 || decide (k = 6)) := tc_s hTC0 hk8 eσt
              refine g_iconst h dX7_readLine_80 (by decide) ?_
              refine g_istore_n (L' := [(0, .ref (w.1 15)), (1, .ref (w.1 (mc m 0))), (2, .int (nI (k + 1))), (3, .int (nI 0))]) h dX7_readLine_81 rfl (by decide) rfl ?_
              have lp82 : ∀ (k9 : Nat) (i : Nat) (τ : Mem), (i ≤ na9 k) → ((arp x L μ k (txE x L e) (st9 b5 b6 k x L e) i).1 = 0 → NU τ x L (txE x L e) i) → (vw (vb m) τ = μ) → (τ 15002 = (nI L)) → (τ 15005 = (nI (if (arp x L μ k (txE x L e) (st9 b5 b6 k x L e) i).1 = 0 then (arp x L μ k (txE x L e) (st9 b5 b6 k x L e) i).2 else txE x L (arp x L μ k (txE x L e) (st9 b5 b6 k x L e) i).2))) → (τ 15000 = (nI ((arp x L μ k (txE x L e) (st9 b5 b6 k x L e) i).1))) → (τ 15001 = (if (arp x L μ k (txE x L e) (st9 b5 b6 k x L e) i).1 = 0 then p0 else nI (txS x L (arp x L μ k (txE x L e) (st9 b5 b6 k x L e) i).2))) → (TX 15600 τ L x) → (∀ a, ((a < vb m ∨ vb m + 464 ≤ a) ∧ (a < 15000 ∨ a = 15002 ∨ a = 15007 ∨ 15013 ≤ a)) → τ a = σ a) → (TC τ (b5 || decide (k = 5)) (b6 || decide (k = 6))) → na9 k - i < k9 → G X w 4 82 [(0, .ref (w.1 15)), (1, .ref (w.1 (mc m 0))), (2, .int (nI (k + 1))), (3, .int (nI i))] [] (τ) := by
                intro k9
                induction k9 with
                | zero => intro i τ hi3 hNU hvτ ht15002_τ ht15005_τ ht15000_τ ht15001_τ hcTX_τ hcFR_τ hcTC_τ hm9; exact absurd hm9 (Nat.not_lt_zero _)
                | succ k9 ih82 =>
                  intro i τ hi3 hNU hvτ ht15002_τ ht15005_τ ht15000_τ ht15001_τ hcTX_τ hcFR_τ hcTC_τ hm82
                  have hal := arp_lt (x := x) (L := L) (μ := μ) (k := k) (e := (txE x L e)) (s := (st9 b5 b6 k x L e)) hsl i
                  have hab := arp_b (x := x) (L := L) (μ := μ) (k := k) (e := (txE x L e)) (s := (st9 b5 b6 k x L e)) hsb i
                  refine g_iload_n h dX7_readLine_82 3 rfl ?_
                  refine g_iload_n h dX7_readLine_83 2 rfl ?_
                  refine g_cspi (rest := [.int (nI i)]) h (c_numbersOf hW k (by omega)) lX7_numbersOf mX7_78 (Nat.lt_of_lt_of_le (by decide) (Nat.le_refl _)) (by decide) rfl rfl rfl dX7_readLine_84 ?_
                  refine g_icmpN_ge h dX7_readLine_87 (by omega) (by omega) (fun c87 => ?_) (fun c87 => ?_)
                  ·
                    obtain ⟨hLa, hLb⟩ := arp_ln (μ := μ) (b5 := b5) (b6 := b6) hK1 hn hi3 (Or.inl c87)
                    refine g_aload_n h dX7_readLine_110 0 rfl ?_
                    refine g_geti h dX7_readLine_111 gX7_46 sc_15 rfl ?_
                    refine g_top (y := (nI ((arp x L μ k (txE x L e) (st9 b5 b6 k x L e) i).1))) (by first | exact ht15000_τ | assumption) ?_
                    refine g_ifN_ne h dX7_readLine_114 (by omega) (fun c114 => ?_) (fun c114 => ?_)
                    ·
                      have hR := hLa c114
                      have hne := c114
                      refine g_aload_n h dX7_readLine_122 0 rfl ?_
                      refine g_geti h dX7_readLine_123 gX7_46 sc_15 rfl ?_
                      refine g_top (y := (nI ((arp x L μ k (txE x L e) (st9 b5 b6 k x L e) i).1))) (by first | exact ht15000_τ | assumption) ?_
                      refine g_ifN_ne h dX7_readLine_126 (by omega) (fun c126 => ?_) (fun c126 => absurd c126 c114)
                      exact g_vret h hQ dX7_readLine_135 rfl (by exact ⟨(by first | (rw [hR]; exact (hvτ).trans (if_neg hne).symm) | (rw [hR]; exact (hvτ).trans (by rw [Nat.add_zero]; rfl)) | fail), (by first | (rw [hR]; exact (ht15000_τ).trans (congrArg nI c126)) | (rw [hR]; exact ht15000_τ) | fail), (by first | (rw [hR]; exact (ht15001_τ).trans (if_pos c126)) | (rw [hR]; exact ht15001_τ) | fail), (by first | exact ht15002_τ | assumption | fail), (by first | (rw [hR]; exact (ht15005_τ).trans (congrArg nI (if_neg c126).symm)) | (rw [hR]; exact ht15005_τ) | fail), (by first | exact hcTX_τ | assumption | fail), (by first | (intro z; rw [hR] at z; exact absurd z hne) | (intro _; rw [hR]; exact hcTC_τ) | fail), (by exact hcFR_τ)⟩)
                    ·
                      obtain ⟨hq0, hR0⟩ := hLb c114
                      have hs9 : (st9 b5 b6 k x L e) = (0, (txE x L e)) := st9_0 (arp_0 i c114)
                      have hK0 : txK x L (txE x L e) = 2 := arp_K hs9 (i - 1) (by rw [show i - 1 + 1 = i from by omega]; exact c114)
                      obtain ⟨hv1, hv2, hv3⟩ := ar9_v hq0
                      have htf := tf9_lt (K := txK x L (arp x L μ k (txE x L e) (st9 b5 b6 k x L e) i).2) (q := 3)
                      have ht15000_τ : τ 15000 = (nI 0) := by rw [ht15000_τ, c114]
                      have ht15001_τ : τ 15001 = p0 := by rw [ht15001_τ, if_pos c114]
                      have ht15005_τ : τ 15005 = (nI ((arp x L μ k (txE x L e) (st9 b5 b6 k x L e) i).2)) := by rw [ht15005_τ, if_pos c114]
                      have hcNU_τ : NU τ x L (txE x L e) (na9 k) := by rw [show na9 k = i from by omega]; exact hNU c114
                      refine g_aload_n h dX7_readLine_117 0 rfl ?_
                      refine g_iconst h dX7_readLine_118 (by decide) ?_
                      refine g_cvv (rest := []) h (c_expect hW 3 ((arp x L μ k (txE x L e) (st9 b5 b6 k x L e) i).2) L x p0 (by exact hab) (by first | omega | assumption | fail) (by omega) (by first | exact ht15000_τ | assumption | fail) (by first | exact ht15001_τ | assumption | fail) (by first | exact ht15002_τ | assumption | fail) (by first | exact ht15005_τ | assumption | fail) (by first | exact hcTX_τ | assumption | fail)) lX7_expect mX7_86 (Nat.lt_of_lt_of_le (by decide) (Nat.le_refl _)) (by decide) sc_15 rfl rfl rfl rfl dX7_readLine_119 (fun σ_15 eσ_15 => ?_)
                      obtain ⟨eσ_15_a, eσ_15_b, eσ_15_c, eσ_15_d, eσ_15_e, eσ_15_f, eσ_15_g, eσ_15_h⟩ := eσ_15
                      have eσ_15_a : σ_15 15002 = (nI L) := eσ_15_a
                      have eσ_15_b : σ_15 15003 = (nI (txK x L ((arp x L μ k (txE x L e) (st9 b5 b6 k x L e) i).2))) := eσ_15_b
                      have eσ_15_c : σ_15 15004 = (nI (txS x L ((arp x L μ k (txE x L e) (st9 b5 b6 k x L e) i).2))) := eσ_15_c
                      have eσ_15_d : σ_15 15005 = (nI (txE x L ((arp x L μ k (txE x L e) (st9 b5 b6 k x L e) i).2))) := eσ_15_d
                      have eσ_15_e : σ_15 15000 = (nI (tf9 (txK x L ((arp x L μ k (txE x L e) (st9 b5 b6 k x L e) i).2)) 3)) := eσ_15_e
                      have eσ_15_f : σ_15 15001 = (if (tf9 (txK x L ((arp x L μ k (txE x L e) (st9 b5 b6 k x L e) i).2)) 3) = 0 then p0 else nI (txS x L ((arp x L μ k (txE x L e) (st9 b5 b6 k x L e) i).2))) := eσ_15_f
                      have eσ_15_g : TX 15600 σ_15 L x := eσ_15_g
                      have eσ_15_h : ∀ a, (a ≠ 15000 ∧ a ≠ 15001 ∧ (a < 15003 ∨ 15005 < a)) → σ_15 a = (τ) a := eσ_15_h
                      have ht15002_σ_15 : σ_15 15002 = (nI L) := eσ_15_a
                      have ht15003_σ_15 : σ_15 15003 = (nI (txK x L ((arp x L μ k (txE x L e) (st9 b5 b6 k x L e) i).2))) := eσ_15_b
                      have ht15004_σ_15 : σ_15 15004 = (nI (txS x L ((arp x L μ k (txE x L e) (st9 b5 b6 k x L e) i).2))) := eσ_15_c
                      have ht15005_σ_15 : σ_15 15005 = (nI (txE x L ((arp x L μ k (txE x L e) (st9 b5 b6 k x L e) i).2))) := eσ_15_d
                      have ht15000_σ_15 : σ_15 15000 = (nI (tf9 (txK x L ((arp x L μ k (txE x L e) (st9 b5 b6 k x L e) i).2)) 3)) := eσ_15_e
                      have ht15001_σ_15 : σ_15 15001 = (if (tf9 (txK x L ((arp x L μ k (txE x L e) (st9 b5 b6 k x L e) i).2)) 3) = 0 then p0 else nI (txS x L ((arp x L μ k (txE x L e) (st9 b5 b6 k x L e) i).2))) := eσ_15_f
                      have hcTX_σ_15 : TX 15600 σ_15 L x := eσ_15_g
                      have hcFR_σ_15 : ∀ a, ((a < vb m ∨ vb m + 464 ≤ a) ∧ (a < 15000 ∨ a = 15002 ∨ a = 15007 ∨ 15013 ≤ a)) → σ_15 a = σ a := by intro a ha; exact Eq.trans (b := (τ) a) (eσ_15_h a (by first | omega | (simp only [vb] at *; omega))) (hcFR_τ a ha)
                      have hcTC_σ_15 : TC σ_15 (b5 || decide (k = 5)) (b6 || decide (k = 6)) := by exact TC.fr hcTC_τ (eσ_15_h _ (by first | omega | (simp only [vb] at *; omega)))
                      have hcNU_σ_15 : NU σ_15 x L (txE x L e) (na9 k) := by exact NU.fr hcNU_τ (fun a ha hb => eσ_15_h a (by first | omega | (simp only [vb] at *; omega)))
                      have hvσ_15 : vw (vb m) σ_15 = μ := by rw [vw_fr (σ := (τ)) (fun j _ _ => eσ_15_h _ (by first | omega | (simp only [vb] at *; omega)))]; first | exact hvτ | assumption
                      refine g_aload_n h dX7_readLine_122 0 rfl ?_
                      refine g_geti h dX7_readLine_123 gX7_46 sc_15 rfl ?_
                      refine g_top (y := (nI (tf9 (txK x L ((arp x L μ k (txE x L e) (st9 b5 b6 k x L e) i).2)) 3))) (by first | exact ht15000_σ_15 | assumption) ?_
                      refine g_ifN_ne h dX7_readLine_126 (by omega) (fun c126 => ?_) (fun c126 => ?_)
                      ·
                        rw [show cl9 x L (arp x L μ k (txE x L e) (st9 b5 b6 k x L e) i).2 = (arp x L μ k (txE x L e) (st9 b5 b6 k x L e) i).2 from if_neg (fun z => c126 (tf9_y z))] at hR0
                        have hR := hR0
                        have hne := c126
                        exact g_vret h hQ dX7_readLine_135 rfl (by exact ⟨(by first | (rw [hR]; exact (hvσ_15).trans (if_neg hne).symm) | (rw [hR]; exact (hvσ_15).trans (by rw [Nat.add_zero]; rfl)) | fail), (by first | (rw [hR]; exact (ht15000_σ_15).trans (congrArg nI c126)) | (rw [hR]; exact ht15000_σ_15) | fail), (by first | (rw [hR]; exact (ht15001_σ_15).trans (if_pos c126)) | (rw [hR]; exact ht15001_σ_15) | fail), (by first | exact ht15002_σ_15 | assumption | fail), (by first | (rw [hR]; exact (ht15005_σ_15).trans (congrArg nI (if_neg c126).symm)) | (rw [hR]; exact ht15005_σ_15) | fail), (by first | exact hcTX_σ_15 | assumption | fail), (by first | (intro z; rw [hR] at z; exact absurd z hne) | (intro _; rw [hR]; exact hcTC_σ_15) | fail), (by exact hcFR_σ_15)⟩)
                      ·
                        rw [show cl9 x L (arp x L μ k (txE x L e) (st9 b5 b6 k x L e) i).2 = txE x L (arp x L μ k (txE x L e) (st9 b5 b6 k x L e) i).2 from if_pos (tf9_0 c126), c126] at hR0
                        have hR := hR0
                        refine g_aload_n h dX7_readLine_129 0 rfl ?_
                        refine g_aload_n h dX7_readLine_130 1 rfl ?_
                        refine g_iload_n h dX7_readLine_131 2 rfl ?_
                        refine g_cvv (rest := []) h (c_carryOut hW k (txE x L e) L x m μ (by first | omega | decide | fail) (by first | exact hvσ_15 | assumption | fail) (by assumption) (by omega) (by first | omega | assumption | fail) (by assumption) (by exact hv1) (by exact hv2) (by exact hv3) (by first | exact hcNU_σ_15 | assumption | fail)) lX7_carryOut mX7_89 (Nat.lt_of_lt_of_le (by decide) (Nat.le_refl _)) (by decide) sc_15 rfl rfl rfl rfl dX7_readLine_132 (fun σ_16 eσ_16 => ?_)
                        obtain ⟨eσ_16_a, eσ_16_b⟩ := eσ_16
                        have eσ_16_a : vw (vb m) σ_16 = EF μ k (txV x L (txE x L e)) (txV x L (txE x L (txE x L e))) (txV x L (txE x L (txE x L (txE x L e)))) := eσ_16_a
                        have eσ_16_b : ∀ a, (a < vb m ∨ vb m + 464 ≤ a) → σ_16 a = σ_15 a := eσ_16_b
                        have ht15002_σ_16 : σ_16 15002 = (nI L) := by rw [eσ_16_b _ (by first | omega | (simp only [vb] at *; omega))]; first | exact ht15002_σ_15 | assumption
                        have ht15003_σ_16 : σ_16 15003 = (nI (txK x L ((arp x L μ k (txE x L e) (st9 b5 b6 k x L e) i).2))) := by rw [eσ_16_b _ (by first | omega | (simp only [vb] at *; omega))]; first | exact ht15003_σ_15 | assumption
                        have ht15004_σ_16 : σ_16 15004 = (nI (txS x L ((arp x L μ k (txE x L e) (st9 b5 b6 k x L e) i).2))) := by rw [eσ_16_b _ (by first | omega | (simp only [vb] at *; omega))]; first | exact ht15004_σ_15 | assumption
                        have ht15005_σ_16 : σ_16 15005 = (nI (txE x L ((arp x L μ k (txE x L e) (st9 b5 b6 k x L e) i).2))) := by rw [eσ_16_b _ (by first | omega | (simp only [vb] at *; omega))]; first | exact ht15005_σ_15 | assumption
                        have ht15000_σ_16 : σ_16 15000 = (nI (tf9 (txK x L ((arp x L μ k (txE x L e) (st9 b5 b6 k x L e) i).2)) 3)) := by rw [eσ_16_b _ (by first | omega | (simp only [vb] at *; omega))]; first | exact ht15000_σ_15 | assumption
                        have ht15001_σ_16 : σ_16 15001 = (if (tf9 (txK x L ((arp x L μ k (txE x L e) (st9 b5 b6 k x L e) i).2)) 3) = 0 then p0 else nI (txS x L ((arp x L μ k (txE x L e) (st9 b5 b6 k x L e) i).2))) := by rw [eσ_16_b _ (by first | omega | (simp only [vb] at *; omega))]; first | exact ht15001_σ_15 | assumption
                        have hcTX_σ_16 : TX 15600 σ_16 L x := by exact TX.fr hcTX_σ_15 (fun a ha hb => eσ_16_b a (by first | omega | (simp only [vb] at *; omega)))
                        have hcFR_σ_16 : ∀ a, ((a < vb m ∨ vb m + 464 ≤ a) ∧ (a < 15000 ∨ a = 15002 ∨ a = 15007 ∨ 15013 ≤ a)) → σ_16 a = σ a := by intro a ha; exact Eq.trans (b := σ_15 a) (eσ_16_b a (by first | omega | (simp only [vb] at *; omega))) (hcFR_σ_15 a ha)
                        have hcTC_σ_16 : TC σ_16 (b5 || decide (k = 5)) (b6 || decide (k = 6)) := by exact TC.fr hcTC_σ_15 (eσ_16_b _ (by first | omega | (simp only [vb] at *; omega)))
                        have hcNU_σ_16 : NU σ_16 x L (txE x L e) (na9 k) := by exact NU.fr hcNU_σ_15 (fun a ha hb => eσ_16_b a (by first | omega | (simp only [vb] at *; omega)))
                        obtain ⟨μ_17, eμ_17⟩ : ∃ μ_17 : Nat → Int32, μ_17 = EF μ k (txV x L (txE x L e)) (txV x L (txE x L (txE x L e))) (txV x L (txE x L (txE x L (txE x L e)))) := ⟨_, rfl⟩
                        have hvσ_16 : vw (vb m) σ_16 = μ_17 := by rw [eμ_17]; exact eσ_16_a
                        exact g_vret h hQ dX7_readLine_135 rfl (by exact ⟨(by first | (rw [hR]; exact (hvσ_16).trans (if_neg hne).symm) | (rw [hR]; exact (hvσ_16).trans (by rw [eμ_17]; rfl)) | fail), (by first | (rw [hR]; exact (ht15000_σ_16).trans (congrArg nI c126)) | (rw [hR]; exact ht15000_σ_16) | fail), (by first | (rw [hR]; exact (ht15001_σ_16).trans (if_pos c126)) | (rw [hR]; exact ht15001_σ_16) | fail), (by first | exact ht15002_σ_16 | assumption | fail), (by first | (rw [hR]; exact (ht15005_σ_16).trans (congrArg nI (if_neg c126).symm)) | (rw [hR]; exact ht15005_σ_16) | fail), (by first | exact hcTX_σ_16 | assumption | fail), (by first | (intro z; rw [hR] at z; exact absurd z hne) | (intro _; rw [hR]; exact hcTC_σ_16) | fail), (by exact hcFR_σ_16)⟩)
                  ·
                    refine g_aload_n h dX7_readLine_90 0 rfl ?_
                    refine g_geti h dX7_readLine_91 gX7_46 sc_15 rfl ?_
                    refine g_top (y := (nI ((arp x L μ k (txE x L e) (st9 b5 b6 k x L e) i).1))) (by first | exact ht15000_τ | assumption) ?_
                    refine g_ifN_ne h dX7_readLine_94 (by omega) (fun c94 => ?_) (fun c94 => ?_)
                    ·
                      obtain ⟨hLa, hLb⟩ := arp_ln (μ := μ) (b5 := b5) (b6 := b6) hK1 hn hi3 (Or.inr c94)
                      have hR := hLa c94
                      have hne := c94
                      refine g_aload_n h dX7_readLine_110 0 rfl ?_
                      refine g_geti h dX7_readLine_111 gX7_46 sc_15 rfl ?_
                      refine g_top (y := (nI ((arp x L μ k (txE x L e) (st9 b5 b6 k x L e) i).1))) (by first | exact ht15000_τ | assumption) ?_
                      refine g_ifN_ne h dX7_readLine_114 (by omega) (fun c114 => ?_) (fun c114 => absurd c114 c94)
                      refine g_aload_n h dX7_readLine_122 0 rfl ?_
                      refine g_geti h dX7_readLine_123 gX7_46 sc_15 rfl ?_
                      refine g_top (y := (nI ((arp x L μ k (txE x L e) (st9 b5 b6 k x L e) i).1))) (by first | exact ht15000_τ | assumption) ?_
                      refine g_ifN_ne h dX7_readLine_126 (by omega) (fun c126 => ?_) (fun c126 => absurd c126 c94)
                      exact g_vret h hQ dX7_readLine_135 rfl (by exact ⟨(by first | (rw [hR]; exact (hvτ).trans (if_neg hne).symm) | (rw [hR]; exact (hvτ).trans (by rw [Nat.add_zero]; rfl)) | fail), (by first | (rw [hR]; exact (ht15000_τ).trans (congrArg nI c126)) | (rw [hR]; exact ht15000_τ) | fail), (by first | (rw [hR]; exact (ht15001_τ).trans (if_pos c126)) | (rw [hR]; exact ht15001_τ) | fail), (by first | exact ht15002_τ | assumption | fail), (by first | (rw [hR]; exact (ht15005_τ).trans (congrArg nI (if_neg c126).symm)) | (rw [hR]; exact ht15005_τ) | fail), (by first | exact hcTX_τ | assumption | fail), (by first | (intro z; rw [hR] at z; exact absurd z hne) | (intro _; rw [hR]; exact hcTC_τ) | fail), (by exact hcFR_τ)⟩)
                    ·
                      have hs9 : (st9 b5 b6 k x L e) = (0, (txE x L e)) := st9_0 (arp_0 i c94)
                      have hp9 : (arp x L μ k (txE x L e) (st9 b5 b6 k x L e) i).2 = nps x L (txE x L e) i := arp_f hs9 i c94
                      obtain ⟨hs1, hs2, hs3⟩ := arp_s (x := x) (L := L) (μ := μ) (k := k) (e := (txE x L e)) (s := (st9 b5 b6 k x L e)) (i := i) (p0 := p0) c94
                      have hK0 : 1 ≤ i → txK x L (txE x L e) = 2 := fun z => arp_K hs9 (i - 1) (by rw [show i - 1 + 1 = i from by omega]; exact c94)
                      have hnb := nps_b (x := x) (L := L) (e := (txE x L e)) hb.2.2 i
                      have hai : aI x L (txE x L e) i < 1000 := by unfold aI; split; omega; exact txV_lt (hK0 (by omega))
                      have ht15000_τ : τ 15000 = (nI 0) := by rw [ht15000_τ, c94]
                      have ht15001_τ : τ 15001 = p0 := by rw [ht15001_τ, if_pos c94]
                      have ht15005_τ : τ 15005 = (nI (nps x L (txE x L e) i)) := by rw [ht15005_τ, if_pos c94, hp9]
                      have hcNU_τ : NU τ x L (txE x L e) i := hNU c94
                      refine g_aload_n h dX7_readLine_97 0 rfl ?_
                      refine g_aload_n h dX7_readLine_98 1 rfl ?_
                      refine g_iload_n h dX7_readLine_99 2 rfl ?_
                      refine g_iload_n h dX7_readLine_100 3 rfl ?_
                      refine g_cvv (rest := []) h (c_readNumber hW k i (aI x L (txE x L e) i) (txE x L e) L x p0 m μ (by exact hnb) (by first | omega | assumption | fail) (by assumption) (by first | omega | decide | fail) (by first | exact hvτ | assumption | fail) (by omega) (by omega) (by intro z; exact if_neg (by omega)) (by exact hai) (by first | exact ht15000_τ | assumption | fail) (by first | exact ht15001_τ | assumption | fail) (by first | exact ht15002_τ | assumption | fail) (by first | exact ht15005_τ | assumption | fail) (by first | exact hcTX_τ | assumption | fail) (by first | exact hcNU_τ | assumption | fail)) lX7_readNumber mX7_82 (Nat.lt_of_lt_of_le (by decide) (Nat.le_refl _)) (by decide) sc_15 rfl rfl rfl rfl dX7_readLine_101 (fun σr eσr => ?_)
                      obtain ⟨eσr_a, eσr_b, eσr_c, eσr_d, eσr_e, eσr_f, eσr_g, eσr_h, eσr_i⟩ := eσr
                      have eσr_a : σr 15002 = (nI L) := eσr_a
                      have eσr_b : σr 15003 = (nI (txK x L (nps x L (txE x L e) i))) := eσr_b
                      have eσr_c : σr 15004 = (nI (txS x L (nps x L (txE x L e) i))) := eσr_c
                      have eσr_d : σr 15005 = (nI (txE x L (nps x L (txE x L e) i))) := eσr_d
                      have eσr_e : σr 15000 = (nI (af9 x L μ k i (aI x L (txE x L e) i) (nps x L (txE x L e) i))) := eσr_e
                      have eσr_f : σr 15001 = (if af9 x L μ k i (aI x L (txE x L e) i) (nps x L (txE x L e) i) = 0 then p0 else nI (txS x L (nps x L (txE x L e) i))) := eσr_f
                      have eσr_g : TX 15600 σr L x := eσr_g
                      have eσr_h : af9 x L μ k i (aI x L (txE x L e) i) (nps x L (txE x L e) i) = 0 → NU σr x L (txE x L e) (i + 1) := eσr_h
                      have eσr_i : ∀ a, (a ≠ 15000 ∧ a ≠ 15001 ∧ (a < 15003 ∨ 15005 < a) ∧ (a < 15010 ∨ 15013 ≤ a)) → σr a = (τ) a := eσr_i
                      have ht15002_σr : σr 15002 = (nI L) := eσr_a
                      have ht15003_σr : σr 15003 = (nI (txK x L (nps x L (txE x L e) i))) := eσr_b
                      have ht15004_σr : σr 15004 = (nI (txS x L (nps x L (txE x L e) i))) := eσr_c
                      have ht15005_σr : σr 15005 = (nI (txE x L (nps x L (txE x L e) i))) := eσr_d
                      have ht15000_σr : σr 15000 = (nI (af9 x L μ k i (aI x L (txE x L e) i) (nps x L (txE x L e) i))) := eσr_e
                      have ht15001_σr : σr 15001 = (if af9 x L μ k i (aI x L (txE x L e) i) (nps x L (txE x L e) i) = 0 then p0 else nI (txS x L (nps x L (txE x L e) i))) := eσr_f
                      have hcTX_σr : TX 15600 σr L x := eσr_g
                      have hcFR_σr : ∀ a, ((a < vb m ∨ vb m + 464 ≤ a) ∧ (a < 15000 ∨ a = 15002 ∨ a = 15007 ∨ 15013 ≤ a)) → σr a = σ a := by intro a ha; exact Eq.trans (b := (τ) a) (eσr_i a (by first | omega | (simp only [vb] at *; omega))) (hcFR_τ a ha)
                      have hcTC_σr : TC σr (b5 || decide (k = 5)) (b6 || decide (k = 6)) := by exact TC.fr hcTC_τ (eσr_i _ (by first | omega | (simp only [vb] at *; omega)))
                      have hvσr : vw (vb m) σr = μ := by rw [vw_fr (σ := (τ)) (fun j _ _ => eσr_i _ (by first | omega | (simp only [vb] at *; omega)))]; first | exact hvτ | assumption
                      refine g_iincN (b := 1) (L' := [(0, .ref (w.1 15)), (1, .ref (w.1 (mc m 0))), (2, .int (nI (k + 1))), (3, .int (nI (i + 1)))]) h dX7_readLine_104 3 rfl rfl (by decide) (by decide) rfl ?_
                      refine g_goto h dX7_readLine_107 ?_
                      exact ih82 (i + 1) σr (by omega) (by intro z; exact eσr_h (by rw [← hp9]; exact hs1.symm.trans z)) (by first | exact hvσr | assumption | fail | fail) (by first | exact ht15002_σr | assumption | fail | fail) (by rw [hs2, hp9]; exact ht15005_σr) (by rw [hs1, hp9]; exact ht15000_σr) (by rw [hs3, hp9]; exact ht15001_σr) (by first | exact hcTX_σr | assumption | fail | fail) (by first | exact hcFR_σr | assumption | fail | fail) (by first | exact hcTC_σr | assumption | fail | fail) (by omega)
              exact lp82 (_) 0 σt (by omega) (by intro _ j hj; omega) (by first | exact hvσt | assumption | fail | fail) (by first | exact ht15002_σt | assumption | fail | fail) (by rw [show (arp x L μ k (txE x L e) (st9 b5 b6 k x L e) 0) = (st9 b5 b6 k x L e) from rfl, hst]; exact ht15005_σt) (by rw [show (arp x L μ k (txE x L e) (st9 b5 b6 k x L e) 0) = (st9 b5 b6 k x L e) from rfl, hst]; exact ht15000_σt) (by rw [show (arp x L μ k (txE x L e) (st9 b5 b6 k x L e) 0) = (st9 b5 b6 k x L e) from rfl, hst]; exact ht15001_σt) (by first | exact hcTX_σt | assumption | fail | fail) (by first | exact hcFR_σt | assumption | fail | fail) (by first | exact hcTC_σt | assumption | fail | fail) (Nat.lt_succ_self _)
            ·
              have htn : told9 b5 b6 k = true := by first | exact tc_y hcTC_σ (Or.inl (by omega)) c59 | exact tc_y hcTC_σ (Or.inr (by omega)) c59
              have hst : (st9 b5 b6 k x L e) = (5, e) := if_pos htn
              refine g_aload_n h dX7_readLine_62 0 rfl ?_
              refine g_iconst h dX7_readLine_63 (by decide) ?_
              refine g_cvv (rest := []) h (c_finds hW 5 (txS x L e) p0 (by first | omega | exact AF_lt | exact tf9_lt | assumption | fail) (by first | exact ht15000_σ | assumption | fail) (by first | exact ht15001_σ | assumption | fail) (by first | exact ht15004_σ | assumption | fail)) lX7_finds mX7_66 (Nat.lt_of_lt_of_le (by decide) (Nat.le_refl _)) (by decide) sc_15 rfl rfl rfl rfl dX7_readLine_64 (fun σ_18 eσ_18 => ?_)
              obtain ⟨eσ_18_a, eσ_18_b, eσ_18_c⟩ := eσ_18
              have eσ_18_a : σ_18 15000 = (nI 5) := eσ_18_a
              have eσ_18_b : σ_18 15001 = (if 5 = 0 then p0 else nI (txS x L e)) := eσ_18_b
              have eσ_18_c : ∀ a, (a ≠ 15000 ∧ a ≠ 15001) → σ_18 a = σ a := eσ_18_c
              have ht15002_σ_18 : σ_18 15002 = (nI L) := by rw [eσ_18_c _ (by first | omega | (simp only [vb] at *; omega))]; first | exact ht15002_σ | assumption
              have ht15003_σ_18 : σ_18 15003 = (nI (txK x L e)) := by rw [eσ_18_c _ (by first | omega | (simp only [vb] at *; omega))]; first | exact ht15003_σ | assumption
              have ht15004_σ_18 : σ_18 15004 = (nI (txS x L e)) := by rw [eσ_18_c _ (by first | omega | (simp only [vb] at *; omega))]; first | exact ht15004_σ | assumption
              have ht15005_σ_18 : σ_18 15005 = (nI (txE x L e)) := by rw [eσ_18_c _ (by first | omega | (simp only [vb] at *; omega))]; first | exact ht15005_σ | assumption
              have ht15000_σ_18 : σ_18 15000 = (nI 5) := eσ_18_a
              have ht15001_σ_18 : σ_18 15001 = (if 5 = 0 then p0 else nI (txS x L e)) := eσ_18_b
              have hcTX_σ_18 : TX 15600 σ_18 L x := by exact TX.fr hcTX_σ (fun a ha hb => eσ_18_c a (by first | omega | (simp only [vb] at *; omega)))
              have hcTC_σ_18 : TC σ_18 b5 b6 := by exact TC.fr hcTC_σ (eσ_18_c _ (by first | omega | (simp only [vb] at *; omega)))
              have hcFR_σ_18 : ∀ a, ((a < vb m ∨ vb m + 464 ≤ a) ∧ (a < 15000 ∨ a = 15002 ∨ a = 15007 ∨ 15013 ≤ a)) → σ_18 a = σ a := by intro a ha; exact Eq.trans (b := σ a) (eσ_18_c a (by first | omega | (simp only [vb] at *; omega))) (hcFR_σ a ha)
              have hvσ_18 : vw (vb m) σ_18 = μ := by rw [vw_fr (σ := σ) (fun j _ _ => eσ_18_c _ (by first | omega | (simp only [vb] at *; omega)))]; first | exact hv | assumption
              have hTC0 := hcTC_σ_18
              have hsl : (st9 b5 b6 k x L e).1 < 10 := by rw [hst]; first | exact (show (0 : Nat) < 10 by decide) | exact (show (5 : Nat) < 10 by decide)
              have hsb : (st9 b5 b6 k x L e).2 ≤ L := by rw [hst]; first | exact hb.2.2 | exact he
              obtain ⟨n3, n1, -⟩ := na9_i (k := k)
              refine g_aload_n h dX7_readLine_67 0 rfl ?_
              refine g_aload_n h dX7_readLine_68 0 rfl ?_
              refine g_geti h dX7_readLine_69 gX7_40 sc_15 rfl ?_
              refine g_iload_n h dX7_readLine_72 2 rfl ?_
              refine g_iconst h dX7_readLine_73 (by decide) ?_
              refine g_cspi (rest := [.ref (w.1 15)]) h (c_with hW (σ_18 15006) (k + 1) true ) lX5_with mX7_74 (Nat.lt_of_lt_of_le (by decide) (Nat.le_refl _)) (by decide) rfl rfl rfl dX7_readLine_74 ?_
              refine g_puti h dX7_readLine_77 pX7_40 sc_15 rfl ?_
              refine g_nm (fun σt eσt => ?_)
              have eσt : σt = upd σ_18 15006 (wth (σ_18 15006) (k + 1) true) := eσt
              have ht15002_σt : σt 15002 = (nI L) := by rw [eσt, upd_ne (by first | omega | (simp only [vb] at *; omega))]; first | exact ht15002_σ_18 | assumption
              have ht15003_σt : σt 15003 = (nI (txK x L e)) := by rw [eσt, upd_ne (by first | omega | (simp only [vb] at *; omega))]; first | exact ht15003_σ_18 | assumption
              have ht15004_σt : σt 15004 = (nI (txS x L e)) := by rw [eσt, upd_ne (by first | omega | (simp only [vb] at *; omega))]; first | exact ht15004_σ_18 | assumption
              have ht15005_σt : σt 15005 = (nI (txE x L e)) := by rw [eσt, upd_ne (by first | omega | (simp only [vb] at *; omega))]; first | exact ht15005_σ_18 | assumption
              have ht15000_σt : σt 15000 = (nI 5) := by rw [eσt, upd_ne (by first | omega | (simp only [vb] at *; omega))]; first | exact ht15000_σ_18 | assumption
              have ht15001_σt : σt 15001 = (if 5 = 0 then p0 else nI (txS x L e)) := by rw [eσt, upd_ne (by first | omega | (simp only [vb] at *; omega))]; first | exact ht15001_σ_18 | assumption
              have hcTX_σt : TX 15600 σt L x := by rw [eσt]; exact TX.fr hcTX_σ_18 (fun a ha hb => upd_ne (by first | omega | (simp only [vb] at *; omega)))
              have hcFR_σt : ∀ a, ((a < vb m ∨ vb m + 464 ≤ a) ∧ (a < 15000 ∨ a = 15002 ∨ a = 15007 ∨ 15013 ≤ a)) → σt a = σ a := by intro a ha; exact Eq.trans (b := σ_18 a) (by rw [eσt, upd_ne (by first | omega | (simp only [vb] at *; omega))]) (hcFR_σ_18 a ha)
              have hvσt : vw (vb m) σt = μ := by rw [eσt, vw_out (by first | omega | (simp only [vb] at *; omega))]; first | exact hvσ_18 | assumption
              have hcTC_σt : TC σt (b5 || decide (k = 5)) (b6 || decide (k = 6)) := tc_s hTC0 hk8 eσt
              refine g_iconst h dX7_readLine_80 (by decide) ?_
              refine g_istore_n (L' := [(0, .ref (w.1 15)), (1, .ref (w.1 (mc m 0))), (2, .int (nI (k + 1))), (3, .int (nI 0))]) h dX7_readLine_81 rfl (by decide) rfl ?_
              have lp82 : ∀ (k9 : Nat) (i : Nat) (τ : Mem), (i ≤ na9 k) → ((arp x L μ k (txE x L e) (st9 b5 b6 k x L e) i).1 = 0 → NU τ x L (txE x L e) i) → (vw (vb m) τ = μ) → (τ 15002 = (nI L)) → (τ 15005 = (nI (if (arp x L μ k (txE x L e) (st9 b5 b6 k x L e) i).1 = 0 then (arp x L μ k (txE x L e) (st9 b5 b6 k x L e) i).2 else txE x L (arp x L μ k (txE x L e) (st9 b5 b6 k x L e) i).2))) → (τ 15000 = (nI ((arp x L μ k (txE x L e) (st9 b5 b6 k x L e) i).1))) → (τ 15001 = (if (arp x L μ k (txE x L e) (st9 b5 b6 k x L e) i).1 = 0 then p0 else nI (txS x L (arp x L μ k (txE x L e) (st9 b5 b6 k x L e) i).2))) → (TX 15600 τ L x) → (∀ a, ((a < vb m ∨ vb m + 464 ≤ a) ∧ (a < 15000 ∨ a = 15002 ∨ a = 15007 ∨ 15013 ≤ a)) → τ a = σ a) → (TC τ (b5 || decide (k = 5)) (b6 || decide (k = 6))) → na9 k - i < k9 → G X w 4 82 [(0, .ref (w.1 15)), (1, .ref (w.1 (mc m 0))), (2, .int (nI (k + 1))), (3, .int (nI i))] [] (τ) := by
                intro k9
                induction k9 with
                | zero => intro i τ hi3 hNU hvτ ht15002_τ ht15005_τ ht15000_τ ht15001_τ hcTX_τ hcFR_τ hcTC_τ hm9; exact absurd hm9 (Nat.not_lt_zero _)
                | succ k9 ih82 =>
                  intro i τ hi3 hNU hvτ ht15002_τ ht15005_τ ht15000_τ ht15001_τ hcTX_τ hcFR_τ hcTC_τ hm82
                  have hal := arp_lt (x := x) (L := L) (μ := μ) (k := k) (e := (txE x L e)) (s := (st9 b5 b6 k x L e)) hsl i
                  have hab := arp_b (x := x) (L := L) (μ := μ) (k := k) (e := (txE x L e)) (s := (st9 b5 b6 k x L e)) hsb i
                  refine g_iload_n h dX7_readLine_82 3 rfl ?_
                  refine g_iload_n h dX7_readLine_83 2 rfl ?_
                  refine g_cspi (rest := [.int (nI i)]) h (c_numbersOf hW k (by omega)) lX7_numbersOf mX7_78 (Nat.lt_of_lt_of_le (by decide) (Nat.le_refl _)) (by decide) rfl rfl rfl dX7_readLine_84 ?_
                  refine g_icmpN_ge h dX7_readLine_87 (by omega) (by omega) (fun c87 => ?_) (fun c87 => ?_)
                  ·
                    obtain ⟨hLa, hLb⟩ := arp_ln (μ := μ) (b5 := b5) (b6 := b6) hK1 hn hi3 (Or.inl c87)
                    refine g_aload_n h dX7_readLine_110 0 rfl ?_
                    refine g_geti h dX7_readLine_111 gX7_46 sc_15 rfl ?_
                    refine g_top (y := (nI ((arp x L μ k (txE x L e) (st9 b5 b6 k x L e) i).1))) (by first | exact ht15000_τ | assumption) ?_
                    refine g_ifN_ne h dX7_readLine_114 (by omega) (fun c114 => ?_) (fun c114 => ?_)
                    ·
                      have hR := hLa c114
                      have hne := c114
                      refine g_aload_n h dX7_readLine_122 0 rfl ?_
                      refine g_geti h dX7_readLine_123 gX7_46 sc_15 rfl ?_
                      refine g_top (y := (nI ((arp x L μ k (txE x L e) (st9 b5 b6 k x L e) i).1))) (by first | exact ht15000_τ | assumption) ?_
                      refine g_ifN_ne h dX7_readLine_126 (by omega) (fun c126 => ?_) (fun c126 => absurd c126 c114)
                      exact g_vret h hQ dX7_readLine_135 rfl (by exact ⟨(by first | (rw [hR]; exact (hvτ).trans (if_neg hne).symm) | (rw [hR]; exact (hvτ).trans (by rw [Nat.add_zero]; rfl)) | fail), (by first | (rw [hR]; exact (ht15000_τ).trans (congrArg nI c126)) | (rw [hR]; exact ht15000_τ) | fail), (by first | (rw [hR]; exact (ht15001_τ).trans (if_pos c126)) | (rw [hR]; exact ht15001_τ) | fail), (by first | exact ht15002_τ | assumption | fail), (by first | (rw [hR]; exact (ht15005_τ).trans (congrArg nI (if_neg c126).symm)) | (rw [hR]; exact ht15005_τ) | fail), (by first | exact hcTX_τ | assumption | fail), (by first | (intro z; rw [hR] at z; exact absurd z hne) | (intro _; rw [hR]; exact hcTC_τ) | fail), (by exact hcFR_τ)⟩)
                    ·
                      obtain ⟨hq0, hR0⟩ := hLb c114
                      have hs9 : (st9 b5 b6 k x L e) = (0, (txE x L e)) := st9_0 (arp_0 i c114)
                      have hK0 : txK x L (txE x L e) = 2 := arp_K hs9 (i - 1) (by rw [show i - 1 + 1 = i from by omega]; exact c114)
                      obtain ⟨hv1, hv2, hv3⟩ := ar9_v hq0
                      have htf := tf9_lt (K := txK x L (arp x L μ k (txE x L e) (st9 b5 b6 k x L e) i).2) (q := 3)
                      have ht15000_τ : τ 15000 = (nI 0) := by rw [ht15000_τ, c114]
                      have ht15001_τ : τ 15001 = p0 := by rw [ht15001_τ, if_pos c114]
                      have ht15005_τ : τ 15005 = (nI ((arp x L μ k (txE x L e) (st9 b5 b6 k x L e) i).2)) := by rw [ht15005_τ, if_pos c114]
                      have hcNU_τ : NU τ x L (txE x L e) (na9 k) := by rw [show na9 k = i from by omega]; exact hNU c114
                      refine g_aload_n h dX7_readLine_117 0 rfl ?_
                      refine g_iconst h dX7_readLine_118 (by decide) ?_
                      refine g_cvv (rest := []) h (c_expect hW 3 ((arp x L μ k (txE x L e) (st9 b5 b6 k x L e) i).2) L x p0 (by exact hab) (by first | omega | assumption | fail) (by omega) (by first | exact ht15000_τ | assumption | fail) (by first | exact ht15001_τ | assumption | fail) (by first | exact ht15002_τ | assumption | fail) (by first | exact ht15005_τ | assumption | fail) (by first | exact hcTX_τ | assumption | fail)) lX7_expect mX7_86 (Nat.lt_of_lt_of_le (by decide) (Nat.le_refl _)) (by decide) sc_15 rfl rfl rfl rfl dX7_readLine_119 (fun σ_19 eσ_19 => ?_)
                      obtain ⟨eσ_19_a, eσ_19_b, eσ_19_c, eσ_19_d, eσ_19_e, eσ_19_f, eσ_19_g, eσ_19_h⟩ := eσ_19
                      have eσ_19_a : σ_19 15002 = (nI L) := eσ_19_a
                      have eσ_19_b : σ_19 15003 = (nI (txK x L ((arp x L μ k (txE x L e) (st9 b5 b6 k x L e) i).2))) := eσ_19_b
                      have eσ_19_c : σ_19 15004 = (nI (txS x L ((arp x L μ k (txE x L e) (st9 b5 b6 k x L e) i).2))) := eσ_19_c
                      have eσ_19_d : σ_19 15005 = (nI (txE x L ((arp x L μ k (txE x L e) (st9 b5 b6 k x L e) i).2))) := eσ_19_d
                      have eσ_19_e : σ_19 15000 = (nI (tf9 (txK x L ((arp x L μ k (txE x L e) (st9 b5 b6 k x L e) i).2)) 3)) := eσ_19_e
                      have eσ_19_f : σ_19 15001 = (if (tf9 (txK x L ((arp x L μ k (txE x L e) (st9 b5 b6 k x L e) i).2)) 3) = 0 then p0 else nI (txS x L ((arp x L μ k (txE x L e) (st9 b5 b6 k x L e) i).2))) := eσ_19_f
                      have eσ_19_g : TX 15600 σ_19 L x := eσ_19_g
                      have eσ_19_h : ∀ a, (a ≠ 15000 ∧ a ≠ 15001 ∧ (a < 15003 ∨ 15005 < a)) → σ_19 a = (τ) a := eσ_19_h
                      have ht15002_σ_19 : σ_19 15002 = (nI L) := eσ_19_a
                      have ht15003_σ_19 : σ_19 15003 = (nI (txK x L ((arp x L μ k (txE x L e) (st9 b5 b6 k x L e) i).2))) := eσ_19_b
                      have ht15004_σ_19 : σ_19 15004 = (nI (txS x L ((arp x L μ k (txE x L e) (st9 b5 b6 k x L e) i).2))) := eσ_19_c
                      have ht15005_σ_19 : σ_19 15005 = (nI (txE x L ((arp x L μ k (txE x L e) (st9 b5 b6 k x L e) i).2))) := eσ_19_d
                      have ht15000_σ_19 : σ_19 15000 = (nI (tf9 (txK x L ((arp x L μ k (txE x L e) (st9 b5 b6 k x L e) i).2)) 3)) := eσ_19_e
                      have ht15001_σ_19 : σ_19 15001 = (if (tf9 (txK x L ((arp x L μ k (txE x L e) (st9 b5 b6 k x L e) i).2)) 3) = 0 then p0 else nI (txS x L ((arp x L μ k (txE x L e) (st9 b5 b6 k x L e) i).2))) := eσ_19_f
                      have hcTX_σ_19 : TX 15600 σ_19 L x := eσ_19_g
                      have hcFR_σ_19 : ∀ a, ((a < vb m ∨ vb m + 464 ≤ a) ∧ (a < 15000 ∨ a = 15002 ∨ a = 15007 ∨ 15013 ≤ a)) → σ_19 a = σ a := by intro a ha; exact Eq.trans (b := (τ) a) (eσ_19_h a (by first | omega | (simp only [vb] at *; omega))) (hcFR_τ a ha)
                      have hcTC_σ_19 : TC σ_19 (b5 || decide (k = 5)) (b6 || decide (k = 6)) := by exact TC.fr hcTC_τ (eσ_19_h _ (by first | omega | (simp only [vb] at *; omega)))
                      have hcNU_σ_19 : NU σ_19 x L (txE x L e) (na9 k) := by exact NU.fr hcNU_τ (fun a ha hb => eσ_19_h a (by first | omega | (simp only [vb] at *; omega)))
                      have hvσ_19 : vw (vb m) σ_19 = μ := by rw [vw_fr (σ := (τ)) (fun j _ _ => eσ_19_h _ (by first | omega | (simp only [vb] at *; omega)))]; first | exact hvτ | assumption
                      refine g_aload_n h dX7_readLine_122 0 rfl ?_
                      refine g_geti h dX7_readLine_123 gX7_46 sc_15 rfl ?_
                      refine g_top (y := (nI (tf9 (txK x L ((arp x L μ k (txE x L e) (st9 b5 b6 k x L e) i).2)) 3))) (by first | exact ht15000_σ_19 | assumption) ?_
                      refine g_ifN_ne h dX7_readLine_126 (by omega) (fun c126 => ?_) (fun c126 => ?_)
                      ·
                        rw [show cl9 x L (arp x L μ k (txE x L e) (st9 b5 b6 k x L e) i).2 = (arp x L μ k (txE x L e) (st9 b5 b6 k x L e) i).2 from if_neg (fun z => c126 (tf9_y z))] at hR0
                        have hR := hR0
                        have hne := c126
                        exact g_vret h hQ dX7_readLine_135 rfl (by exact ⟨(by first | (rw [hR]; exact (hvσ_19).trans (if_neg hne).symm) | (rw [hR]; exact (hvσ_19).trans (by rw [Nat.add_zero]; rfl)) | fail), (by first | (rw [hR]; exact (ht15000_σ_19).trans (congrArg nI c126)) | (rw [hR]; exact ht15000_σ_19) | fail), (by first | (rw [hR]; exact (ht15001_σ_19).trans (if_pos c126)) | (rw [hR]; exact ht15001_σ_19) | fail), (by first | exact ht15002_σ_19 | assumption | fail), (by first | (rw [hR]; exact (ht15005_σ_19).trans (congrArg nI (if_neg c126).symm)) | (rw [hR]; exact ht15005_σ_19) | fail), (by first | exact hcTX_σ_19 | assumption | fail), (by first | (intro z; rw [hR] at z; exact absurd z hne) | (intro _; rw [hR]; exact hcTC_σ_19) | fail), (by exact hcFR_σ_19)⟩)
                      ·
                        rw [show cl9 x L (arp x L μ k (txE x L e) (st9 b5 b6 k x L e) i).2 = txE x L (arp x L μ k (txE x L e) (st9 b5 b6 k x L e) i).2 from if_pos (tf9_0 c126), c126] at hR0
                        have hR := hR0
                        refine g_aload_n h dX7_readLine_129 0 rfl ?_
                        refine g_aload_n h dX7_readLine_130 1 rfl ?_
                        refine g_iload_n h dX7_readLine_131 2 rfl ?_
                        refine g_cvv (rest := []) h (c_carryOut hW k (txE x L e) L x m μ (by first | omega | decide | fail) (by first | exact hvσ_19 | assumption | fail) (by assumption) (by omega) (by first | omega | assumption | fail) (by assumption) (by exact hv1) (by exact hv2) (by exact hv3) (by first | exact hcNU_σ_19 | assumption | fail)) lX7_carryOut mX7_89 (Nat.lt_of_lt_of_le (by decide) (Nat.le_refl _)) (by decide) sc_15 rfl rfl rfl rfl dX7_readLine_132 (fun σ_20 eσ_20 => ?_)
                        obtain ⟨eσ_20_a, eσ_20_b⟩ := eσ_20
                        have eσ_20_a : vw (vb m) σ_20 = EF μ k (txV x L (txE x L e)) (txV x L (txE x L (txE x L e))) (txV x L (txE x L (txE x L (txE x L e)))) := eσ_20_a
                        have eσ_20_b : ∀ a, (a < vb m ∨ vb m + 464 ≤ a) → σ_20 a = σ_19 a := eσ_20_b
                        have ht15002_σ_20 : σ_20 15002 = (nI L) := by rw [eσ_20_b _ (by first | omega | (simp only [vb] at *; omega))]; first | exact ht15002_σ_19 | assumption
                        have ht15003_σ_20 : σ_20 15003 = (nI (txK x L ((arp x L μ k (txE x L e) (st9 b5 b6 k x L e) i).2))) := by rw [eσ_20_b _ (by first | omega | (simp only [vb] at *; omega))]; first | exact ht15003_σ_19 | assumption
                        have ht15004_σ_20 : σ_20 15004 = (nI (txS x L ((arp x L μ k (txE x L e) (st9 b5 b6 k x L e) i).2))) := by rw [eσ_20_b _ (by first | omega | (simp only [vb] at *; omega))]; first | exact ht15004_σ_19 | assumption
                        have ht15005_σ_20 : σ_20 15005 = (nI (txE x L ((arp x L μ k (txE x L e) (st9 b5 b6 k x L e) i).2))) := by rw [eσ_20_b _ (by first | omega | (simp only [vb] at *; omega))]; first | exact ht15005_σ_19 | assumption
                        have ht15000_σ_20 : σ_20 15000 = (nI (tf9 (txK x L ((arp x L μ k (txE x L e) (st9 b5 b6 k x L e) i).2)) 3)) := by rw [eσ_20_b _ (by first | omega | (simp only [vb] at *; omega))]; first | exact ht15000_σ_19 | assumption
                        have ht15001_σ_20 : σ_20 15001 = (if (tf9 (txK x L ((arp x L μ k (txE x L e) (st9 b5 b6 k x L e) i).2)) 3) = 0 then p0 else nI (txS x L ((arp x L μ k (txE x L e) (st9 b5 b6 k x L e) i).2))) := by rw [eσ_20_b _ (by first | omega | (simp only [vb] at *; omega))]; first | exact ht15001_σ_19 | assumption
                        have hcTX_σ_20 : TX 15600 σ_20 L x := by exact TX.fr hcTX_σ_19 (fun a ha hb => eσ_20_b a (by first | omega | (simp only [vb] at *; omega)))
                        have hcFR_σ_20 : ∀ a, ((a < vb m ∨ vb m + 464 ≤ a) ∧ (a < 15000 ∨ a = 15002 ∨ a = 15007 ∨ 15013 ≤ a)) → σ_20 a = σ a := by intro a ha; exact Eq.trans (b := σ_19 a) (eσ_20_b a (by first | omega | (simp only [vb] at *; omega))) (hcFR_σ_19 a ha)
                        have hcTC_σ_20 : TC σ_20 (b5 || decide (k = 5)) (b6 || decide (k = 6)) := by exact TC.fr hcTC_σ_19 (eσ_20_b _ (by first | omega | (simp only [vb] at *; omega)))
                        have hcNU_σ_20 : NU σ_20 x L (txE x L e) (na9 k) := by exact NU.fr hcNU_σ_19 (fun a ha hb => eσ_20_b a (by first | omega | (simp only [vb] at *; omega)))
                        obtain ⟨μ_21, eμ_21⟩ : ∃ μ_21 : Nat → Int32, μ_21 = EF μ k (txV x L (txE x L e)) (txV x L (txE x L (txE x L e))) (txV x L (txE x L (txE x L (txE x L e)))) := ⟨_, rfl⟩
                        have hvσ_20 : vw (vb m) σ_20 = μ_21 := by rw [eμ_21]; exact eσ_20_a
                        exact g_vret h hQ dX7_readLine_135 rfl (by exact ⟨(by first | (rw [hR]; exact (hvσ_20).trans (if_neg hne).symm) | (rw [hR]; exact (hvσ_20).trans (by rw [eμ_21]; rfl)) | fail), (by first | (rw [hR]; exact (ht15000_σ_20).trans (congrArg nI c126)) | (rw [hR]; exact ht15000_σ_20) | fail), (by first | (rw [hR]; exact (ht15001_σ_20).trans (if_pos c126)) | (rw [hR]; exact ht15001_σ_20) | fail), (by first | exact ht15002_σ_20 | assumption | fail), (by first | (rw [hR]; exact (ht15005_σ_20).trans (congrArg nI (if_neg c126).symm)) | (rw [hR]; exact ht15005_σ_20) | fail), (by first | exact hcTX_σ_20 | assumption | fail), (by first | (intro z; rw [hR] at z; exact absurd z hne) | (intro _; rw [hR]; exact hcTC_σ_20) | fail), (by exact hcFR_σ_20)⟩)
                  ·
                    refine g_aload_n h dX7_readLine_90 0 rfl ?_
                    refine g_geti h dX7_readLine_91 gX7_46 sc_15 rfl ?_
                    refine g_top (y := (nI ((arp x L μ k (txE x L e) (st9 b5 b6 k x L e) i).1))) (by first | exact ht15000_τ | assumption) ?_
                    refine g_ifN_ne h dX7_readLine_94 (by omega) (fun c94 => ?_) (fun c94 => ?_)
                    ·
                      obtain ⟨hLa, hLb⟩ := arp_ln (μ := μ) (b5 := b5) (b6 := b6) hK1 hn hi3 (Or.inr c94)
                      have hR := hLa c94
                      have hne := c94
                      refine g_aload_n h dX7_readLine_110 0 rfl ?_
                      refine g_geti h dX7_readLine_111 gX7_46 sc_15 rfl ?_
                      refine g_top (y := (nI ((arp x L μ k (txE x L e) (st9 b5 b6 k x L e) i).1))) (by first | exact ht15000_τ | assumption) ?_
                      refine g_ifN_ne h dX7_readLine_114 (by omega) (fun c114 => ?_) (fun c114 => absurd c114 c94)
                      refine g_aload_n h dX7_readLine_122 0 rfl ?_
                      refine g_geti h dX7_readLine_123 gX7_46 sc_15 rfl ?_
                      refine g_top (y := (nI ((arp x L μ k (txE x L e) (st9 b5 b6 k x L e) i).1))) (by first | exact ht15000_τ | assumption) ?_
                      refine g_ifN_ne h dX7_readLine_126 (by omega) (fun c126 => ?_) (fun c126 => absurd c126 c94)
                      exact g_vret h hQ dX7_readLine_135 rfl (by exact ⟨(by first | (rw [hR]; exact (hvτ).trans (if_neg hne).symm) | (rw [hR]; exact (hvτ).trans (by rw [Nat.add_zero]; rfl)) | fail), (by first | (rw [hR]; exact (ht15000_τ).trans (congrArg nI c126)) | (rw [hR]; exact ht15000_τ) | fail), (by first | (rw [hR]; exact (ht15001_τ).trans (if_pos c126)) | (rw [hR]; exact ht15001_τ) | fail), (by first | exact ht15002_τ | assumption | fail), (by first | (rw [hR]; exact (ht15005_τ).trans (congrArg nI (if_neg c126).symm)) | (rw [hR]; exact ht15005_τ) | fail), (by first | exact hcTX_τ | assumption | fail), (by first | (intro z; rw [hR] at z; exact absurd z hne) | (intro _; rw [hR]; exact hcTC_τ) | fail), (by exact hcFR_τ)⟩)
                    ·
                      have hs9 : (st9 b5 b6 k x L e) = (0, (txE x L e)) := st9_0 (arp_0 i c94)
                      have hp9 : (arp x L μ k (txE x L e) (st9 b5 b6 k x L e) i).2 = nps x L (txE x L e) i := arp_f hs9 i c94
                      obtain ⟨hs1, hs2, hs3⟩ := arp_s (x := x) (L := L) (μ := μ) (k := k) (e := (txE x L e)) (s := (st9 b5 b6 k x L e)) (i := i) (p0 := p0) c94
                      have hK0 : 1 ≤ i → txK x L (txE x L e) = 2 := fun z => arp_K hs9 (i - 1) (by rw [show i - 1 + 1 = i from by omega]; exact c94)
                      have hnb := nps_b (x := x) (L := L) (e := (txE x L e)) hb.2.2 i
                      have hai : aI x L (txE x L e) i < 1000 := by unfold aI; split; omega; exact txV_lt (hK0 (by omega))
                      have ht15000_τ : τ 15000 = (nI 0) := by rw [ht15000_τ, c94]
                      have ht15001_τ : τ 15001 = p0 := by rw [ht15001_τ, if_pos c94]
                      have ht15005_τ : τ 15005 = (nI (nps x L (txE x L e) i)) := by rw [ht15005_τ, if_pos c94, hp9]
                      have hcNU_τ : NU τ x L (txE x L e) i := hNU c94
                      refine g_aload_n h dX7_readLine_97 0 rfl ?_
                      refine g_aload_n h dX7_readLine_98 1 rfl ?_
                      refine g_iload_n h dX7_readLine_99 2 rfl ?_
                      refine g_iload_n h dX7_readLine_100 3 rfl ?_
                      refine g_cvv (rest := []) h (c_readNumber hW k i (aI x L (txE x L e) i) (txE x L e) L x p0 m μ (by exact hnb) (by first | omega | assumption | fail) (by assumption) (by first | omega | decide | fail) (by first | exact hvτ | assumption | fail) (by omega) (by omega) (by intro z; exact if_neg (by omega)) (by exact hai) (by first | exact ht15000_τ | assumption | fail) (by first | exact ht15001_τ | assumption | fail) (by first | exact ht15002_τ | assumption | fail) (by first | exact ht15005_τ | assumption | fail) (by first | exact hcTX_τ | assumption | fail) (by first | exact hcNU_τ | assumption | fail)) lX7_readNumber mX7_82 (Nat.lt_of_lt_of_le (by decide) (Nat.le_refl _)) (by decide) sc_15 rfl rfl rfl rfl dX7_readLine_101 (fun σr eσr => ?_)
                      obtain ⟨eσr_a, eσr_b, eσr_c, eσr_d, eσr_e, eσr_f, eσr_g, eσr_h, eσr_i⟩ := eσr
                      have eσr_a : σr 15002 = (nI L) := eσr_a
                      have eσr_b : σr 15003 = (nI (txK x L (nps x L (txE x L e) i))) := eσr_b
                      have eσr_c : σr 15004 = (nI (txS x L (nps x L (txE x L e) i))) := eσr_c
                      have eσr_d : σr 15005 = (nI (txE x L (nps x L (txE x L e) i))) := eσr_d
                      have eσr_e : σr 15000 = (nI (af9 x L μ k i (aI x L (txE x L e) i) (nps x L (txE x L e) i))) := eσr_e
                      have eσr_f : σr 15001 = (if af9 x L μ k i (aI x L (txE x L e) i) (nps x L (txE x L e) i) = 0 then p0 else nI (txS x L (nps x L (txE x L e) i))) := eσr_f
                      have eσr_g : TX 15600 σr L x := eσr_g
                      have eσr_h : af9 x L μ k i (aI x L (txE x L e) i) (nps x L (txE x L e) i) = 0 → NU σr x L (txE x L e) (i + 1) := eσr_h
                      have eσr_i : ∀ a, (a ≠ 15000 ∧ a ≠ 15001 ∧ (a < 15003 ∨ 15005 < a) ∧ (a < 15010 ∨ 15013 ≤ a)) → σr a = (τ) a := eσr_i
                      have ht15002_σr : σr 15002 = (nI L) := eσr_a
                      have ht15003_σr : σr 15003 = (nI (txK x L (nps x L (txE x L e) i))) := eσr_b
                      have ht15004_σr : σr 15004 = (nI (txS x L (nps x L (txE x L e) i))) := eσr_c
                      have ht15005_σr : σr 15005 = (nI (txE x L (nps x L (txE x L e) i))) := eσr_d
                      have ht15000_σr : σr 15000 = (nI (af9 x L μ k i (aI x L (txE x L e) i) (nps x L (txE x L e) i))) := eσr_e
                      have ht15001_σr : σr 15001 = (if af9 x L μ k i (aI x L (txE x L e) i) (nps x L (txE x L e) i) = 0 then p0 else nI (txS x L (nps x L (txE x L e) i))) := eσr_f
                      have hcTX_σr : TX 15600 σr L x := eσr_g
                      have hcFR_σr : ∀ a, ((a < vb m ∨ vb m + 464 ≤ a) ∧ (a < 15000 ∨ a = 15002 ∨ a = 15007 ∨ 15013 ≤ a)) → σr a = σ a := by intro a ha; exact Eq.trans (b := (τ) a) (eσr_i a (by first | omega | (simp only [vb] at *; omega))) (hcFR_τ a ha)
                      have hcTC_σr : TC σr (b5 || decide (k = 5)) (b6 || decide (k = 6)) := by exact TC.fr hcTC_τ (eσr_i _ (by first | omega | (simp only [vb] at *; omega)))
                      have hvσr : vw (vb m) σr = μ := by rw [vw_fr (σ := (τ)) (fun j _ _ => eσr_i _ (by first | omega | (simp only [vb] at *; omega)))]; first | exact hvτ | assumption
                      refine g_iincN (b := 1) (L' := [(0, .ref (w.1 15)), (1, .ref (w.1 (mc m 0))), (2, .int (nI (k + 1))), (3, .int (nI (i + 1)))]) h dX7_readLine_104 3 rfl rfl (by decide) (by decide) rfl ?_
                      refine g_goto h dX7_readLine_107 ?_
                      exact ih82 (i + 1) σr (by omega) (by intro z; exact eσr_h (by rw [← hp9]; exact hs1.symm.trans z)) (by first | exact hvσr | assumption | fail | fail) (by first | exact ht15002_σr | assumption | fail | fail) (by rw [hs2, hp9]; exact ht15005_σr) (by rw [hs1, hp9]; exact ht15000_σr) (by rw [hs3, hp9]; exact ht15001_σr) (by first | exact hcTX_σr | assumption | fail | fail) (by first | exact hcFR_σr | assumption | fail | fail) (by first | exact hcTC_σr | assumption | fail | fail) (by omega)
              exact lp82 (_) 0 σt (by omega) (by intro _ j hj; omega) (by first | exact hvσt | assumption | fail | fail) (by first | exact ht15002_σt | assumption | fail | fail) (by rw [show (arp x L μ k (txE x L e) (st9 b5 b6 k x L e) 0) = (st9 b5 b6 k x L e) from rfl, hst]; exact ht15005_σt) (by rw [show (arp x L μ k (txE x L e) (st9 b5 b6 k x L e) 0) = (st9 b5 b6 k x L e) from rfl, hst]; exact ht15000_σt) (by rw [show (arp x L μ k (txE x L e) (st9 b5 b6 k x L e) 0) = (st9 b5 b6 k x L e) from rfl, hst]; exact ht15001_σt) (by first | exact hcTX_σt | assumption | fail | fail) (by first | exact hcFR_σt | assumption | fail | fail) (by first | exact hcTC_σt | assumption | fail | fail) (Nat.lt_succ_self _)
      ·
        exfalso; omega
