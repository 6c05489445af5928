/-! the class's routes -/
def CR (σ : Mem) (i : Nat) (R : RT) (n : Nat) : Prop := ∀ y, y < n → σ (15200 + (8 * i + y)) = nI (rs R y) ∧ σ (15264 + (8 * i + y)) = rn R y
theorem CR.fr {i n : Nat} {R : RT} {σ σ' : Mem} (h : CR σ i R n) (f : ∀ a, 15200 ≤ a → (a < 15200 + (8 * i + n) ∧ 15200 + 8 * i ≤ a) ∨ (a < 15264 + (8 * i + n) ∧ 15264 + 8 * i ≤ a) → σ' a = σ a) : CR σ' i R n := fun y hy => by
  rw [f _ (by omega) (by omega), f _ (by omega) (by omega)]
  exact h y hy
theorem CR.set {R : RT} {i n : Nat} {σ σ1 σ2 : Mem} {y s t : Nat} (h : CR σ i R n) (hi : i < 8) (hn : n ≤ 8) (hy : y < n) (e1 : σ1 = upd σ (15200 + (8 * i + y)) (nI s)) (e2 : σ2 = upd σ1 (15264 + (8 * i + y)) (nI t)) : CR σ2 i (rset R y (s, t)) n := fun q hq => by
  rw [rs_set, rn_set]
  by_cases e : q = y
  · subst e
    rw [if_pos rfl, if_pos rfl]
    constructor
    · rw [e2, upd_ne (by omega), e1, upd_eq]
    · rw [e2, upd_eq]
  · rw [if_neg e, if_neg e]
    constructor
    · rw [e2, upd_ne (by omega), e1, upd_ne (by omega)]
      exact (h q hq).1
    · rw [e2, upd_ne (by omega), e1, upd_ne (by omega)]
      exact (h q hq).2
def CZ (μ : Nat → Int32) (i k : Nat) (σ : Mem) : Prop := ∀ y, y < k → σ (15200 + (8 * i + y)) = nI (rs (r0 μ i) y) ∧ σ (15264 + (8 * i + y)) = rn (r0 μ i) y
theorem CZ.more {μ : Nat → Int32} {i k : Nat} {σ σ1 σ2 : Mem} {a b : Int32} (h : CZ μ i k σ) (hi : i < 8) (hk : k < 8) (e1 : σ1 = upd σ (15200 + (8 * i + k)) a) (e2 : σ2 = upd σ1 (15264 + (8 * i + k)) b) (ha : a = nI (rs (r0 μ i) k)) (hb : b = rn (r0 μ i) k) : CZ μ i (k + 1) σ2 := fun y hy => by
  by_cases e : y = k
  · subst e
    constructor
    · rw [e2, upd_ne (by omega), e1, upd_eq, ha]
    · rw [e2, upd_eq, hb]
  · constructor
    · rw [e2, upd_ne (by omega), e1, upd_ne (by omega)]
      exact (h y (by omega)).1
    · rw [e2, upd_ne (by omega), e1, upd_ne (by omega)]
      exact (h y (by omega)).2
def oset (R : RT) (o : Nat) (v : Option Nat) (r : Nat) : RT := fun q => if q = o then two2 v r else R q
theorem oset_0 {R : RT} {o r : Nat} (h : R o = none) : R = oset R o none r := by
  funext q
  unfold oset
  split
  · rename_i e
    rw [e, h]
    rfl
  · rfl
theorem oset_s {R : RT} {o r w : Nat} {v : Option Nat} : rset (oset R o v r) o (r, w) = oset R o (some w) r := by
  funext q
  unfold rset oset
  split
  · rfl
  · rfl
/-- the first of whom p holds, from b on -/
def FdX (p : Nat → Bool) (b n : Nat) (v : Option Nat) : Prop := match v with
  | none => ∀ j, b ≤ j → j < n → p j = false
  | some w => b ≤ w ∧ w < n ∧ p w = true ∧ ∀ j, b ≤ j → j < w → p j = false
theorem fs_first {p : Nat → Bool} : ∀ {n w : Nat}, fs p n = some w → ∀ u, u < w → p u = false
  | 0, w, h, _, _ => by simp [fs] at h
  | n + 1, w, h, u, hu => by
    simp only [fs] at h
    cases q : fs p n with
    | some v =>
      rw [q] at h
      cases h
      exact fs_first q u hu
    | none =>
      rw [q] at h
      dsimp only at h
      split at h
      · cases h
        exact fs_no q u hu
      · cases h
theorem Fd_fs {p : Nat → Bool} {n : Nat} {v : Option Nat} (h : FdX p 0 n v) : v = fs p n := by
  cases q : fs p n with
  | none =>
    cases v with
    | none => rfl
    | some w =>
      have := fs_no q w h.2.1
      rw [h.2.2.1] at this
      cases this
  | some w =>
    have hw := fs_lt q
    cases v with
    | none =>
      have := h w (by omega) hw.1
      rw [hw.2] at this
      cases this
    | some u =>
      have h1 : ¬ w < u := fun c => by
        have := h.2.2.2 w (by omega) c
        rw [hw.2] at this
        cases this
      have h2 : ¬ u < w := fun c => by
        have := fs_first q u c
        rw [h.2.2.1] at this
        cases this
      rw [show u = w from by omega]
theorem Fd_init {p : Nat → Bool} {n : Nat} : FdX p n n none := fun j h1 h2 => by omega
theorem Fd_yes {p : Nat → Bool} {b n : Nat} {v : Option Nat} (h : FdX p (b + 1) n v) (hb : b < n) (hp : p b = true) : FdX p b n (some b) := ⟨Nat.le_refl _, hb, hp, fun j h1 h2 => by omega⟩
theorem Fd_no {p : Nat → Bool} {b n : Nat} {v : Option Nat} (h : FdX p (b + 1) n v) (hp : p b = false) : FdX p b n v := by
  cases v with
  | none =>
    intro j h1 h2
    by_cases e : j = b
    · rw [e]; exact hp
    · exact h j (by omega) h2
  | some w =>
    obtain ⟨h1, h2, h3, h4⟩ := h
    refine ⟨by omega, h2, h3, fun j q1 q2 => ?_⟩
    by_cases e : j = b
    · rw [e]; exact hp
    · exact h4 j (by omega) q2
/-- by the known so far of those below k -/
def bK (μ : Nat → Int32) (i k : Nat) : RT := fun y => if y < k then rt1 μ i y else r0 μ i y
theorem bK_0 {μ : Nat → Int32} {i : Nat} : bK μ i 0 = r0 μ i := by
  funext y
  unfold bK
  rw [if_neg (by omega)]
theorem bK_y {μ : Nat → Int32} {i k : Nat} (hk : k < nN μ) (hi : k ≠ i) (h0 : rs (bK μ i k) k = 0) : oset (bK μ i k) k (fs (knB μ i k) (nN μ)) 2 = bK μ i (k + 1) := by
  have h1 : ¬ tb (μ (64 + i)) k = true := fun c => by
    unfold rs bK r0 at h0
    rw [if_neg (by omega), if_pos c] at h0
    cases h0
  funext y
  unfold oset bK
  by_cases e : y = k
  · subst e
    rw [if_pos rfl, if_pos (by omega)]
    unfold rt1
    rw [if_neg h1, if_pos ⟨hk, hi⟩]
  · rw [if_neg e]
    by_cases c : y < k
    · rw [if_pos c, if_pos (by omega)]
    · rw [if_neg c, if_neg (by omega)]
theorem bK_n {μ : Nat → Int32} {i k : Nat} (hI : MI μ) (hi : i < 8) (h : k = i ∨ rs (bK μ i k) k ≠ 0) : bK μ i k = bK μ i (k + 1) := by
  funext y
  unfold bK
  by_cases e : y = k
  · subst e
    rw [if_neg (by omega), if_pos (by omega)]
    unfold r0 rt1
    by_cases c : tb (μ (64 + i)) y = true
    · rw [if_pos c, if_pos c]
    · rw [if_neg c, if_neg c]
      rcases h with h | h
      · rw [if_neg (fun q => q.2 h)]
      · unfold rs bK r0 at h
        rw [if_neg (by omega), if_neg c] at h
        exact absurd rfl h
  · by_cases c : y < k
    · rw [if_pos c, if_pos (by omega)]
    · rw [if_neg c, if_neg (by omega)]
theorem bK_end {μ : Nat → Int32} {i : Nat} (hI : MI μ) (hi : i < 8) : bK μ i (nN μ) = rt1 μ i := by
  funext y
  unfold bK
  by_cases c : y < nN μ
  · rw [if_pos c]
  · rw [if_neg c]
    unfold r0 rt1
    by_cases c1 : tb (μ (64 + i)) y = true
    · exact absurd (near_lt hI hi c1).1 c
    · rw [if_neg c1, if_neg c1, if_neg (fun q => c q.1)]
/-- a longer way for one node -/
def fur (R : RT) (o : Nat) (v : Option Nat) (r : Nat) : RT := match v with
  | none => R
  | some w => rset R o (r + 1, w)
def fK (μ : Nat → Int32) (i r : Nat) (R : RT) (k : Nat) : RT := fun y => if y < k then rtR μ i r R y else R y
theorem fK_0 {μ : Nat → Int32} {i r : Nat} {R : RT} : R = fK μ i r R 0 := by
  funext y
  unfold fK
  rw [if_neg (by omega)]
theorem fK_rs {μ : Nat → Int32} {i r k x : Nat} {R : RT} (h1 : R1 R) (hr : 1 ≤ r) : decide (rs (fK μ i r R k) x = r) = decide (rs R x = r) ∧ (rs R x = r → rx (fK μ i r R k) x = rx R x) := by
  by_cases c : rs R x = 0
  · have e2 : ¬ rs R x = r := by omega
    refine ⟨?_, fun q => absurd q e2⟩
    rw [decide_eq_false e2]
    apply decide_eq_false
    intro q
    unfold rs fK at q
    by_cases c1 : x < k
    · rw [if_pos c1] at q
      unfold rtR at q
      by_cases c2 : x < nN μ ∧ x ≠ i ∧ rs R x = 0
      · rw [if_pos c2] at q
        cases e : mnx (gB μ i R r x) (rx R) (nN μ) with
        | none => rw [e] at q; simp only [two2] at q; omega
        | some w => rw [e] at q; simp only [two2] at q; omega
      · rw [if_neg c2] at q
        exact e2 q
    · rw [if_neg c1] at q
      exact e2 q
  · have e : fK μ i r R k x = R x := by
      unfold fK
      split
      · exact rtR_keep c
      · rfl
    unfold rs rx
    rw [e]
    exact ⟨rfl, fun _ => rfl⟩
theorem fK_mnx {μ : Nat → Int32} {i r k y : Nat} {R : RT} (h1 : R1 R) (hr : 1 ≤ r) : mnx (gB μ i (fK μ i r R k) r y) (rx (fK μ i r R k)) (nN μ) = mnx (gB μ i R r y) (rx R) (nN μ) := by
  apply mnx_congr
  intro x hx
  obtain ⟨e1, e2⟩ := fK_rs (μ := μ) (i := i) (k := k) (x := x) h1 hr
  unfold gB
  rw [e1]
  refine ⟨rfl, fun q => e2 ?_⟩
  simp only [Bool.and_eq_true, decide_eq_true_eq] at q
  exact q.2
theorem fK_y {μ : Nat → Int32} {i r k : Nat} {R : RT} (h1 : R1 R) (hr : 1 ≤ r) (hk : k < nN μ) (hi : k ≠ i) (h0 : rs (fK μ i r R k) k = 0) : fur (fK μ i r R k) k (mnx (gB μ i (fK μ i r R k) r k) (rx (fK μ i r R k)) (nN μ)) r = fK μ i r R (k + 1) := by
  rw [fK_mnx h1 hr]
  have e0 : rs R k = 0 := by
    unfold rs fK at h0
    rw [if_neg (by omega)] at h0
    exact h0
  have ek : rtR μ i r R k = two2 (mnx (gB μ i R r k) (rx R) (nN μ)) (r + 1) := by
    unfold rtR
    rw [if_pos ⟨hk, hi, e0⟩]
  funext y
  cases q : mnx (gB μ i R r k) (rx R) (nN μ) with
  | none =>
    rw [q] at ek
    show fK μ i r R k y = _
    unfold fK
    by_cases e : y = k
    · subst e
      rw [if_neg (by omega), if_pos (by omega), ek, h1.none e0]
      rfl
    · by_cases c : y < k
      · rw [if_pos c, if_pos (by omega)]
      · rw [if_neg c, if_neg (by omega)]
  | some w =>
    rw [q] at ek
    show rset (fK μ i r R k) k (r + 1, w) y = _
    unfold rset fK
    by_cases e : y = k
    · subst e
      rw [if_pos rfl, if_pos (by omega), ek]
      rfl
    · rw [if_neg e]
      by_cases c : y < k
      · rw [if_pos c, if_pos (by omega)]
      · rw [if_neg c, if_neg (by omega)]
theorem fK_n {μ : Nat → Int32} {i r k : Nat} {R : RT} (h : k = i ∨ rs (fK μ i r R k) k ≠ 0) : fK μ i r R k = fK μ i r R (k + 1) := by
  funext y
  unfold fK
  by_cases e : y = k
  · subst e
    rw [if_neg (by omega), if_pos (by omega)]
    rcases h with h | h
    · unfold rtR
      rw [if_neg (fun q => q.2.1 h)]
    · unfold rs fK at h
      rw [if_neg (by omega)] at h
      exact (rtR_keep (R := R) h).symm
  · by_cases c : y < k
    · rw [if_pos c, if_pos (by omega)]
    · rw [if_neg c, if_neg (by omega)]
theorem fK_end {μ : Nat → Int32} {i r : Nat} {R : RT} : fK μ i r R (nN μ) = rtR μ i r R := by
  funext y
  unfold fK
  by_cases c : y < nN μ
  · rw [if_pos c]
  · rw [if_neg c]
    unfold rtR
    rw [if_neg (fun q => c q.1)]
theorem rb_of {R S : RT} {y : Nat} (e : R y = S y) (h : rs S y < 20 ∧ rx S y < 20) : rs R y < 20 ∧ rx R y < 20 := by
  unfold rs rx at *
  rw [e]
  exact h
theorem bK_rb {μ : Nat → Int32} {i k : Nat} (hI : MI μ) (hi : i < 8) : Rb (bK μ i k) := fun y => by
  have h1 := rgF_rb hI hi 0 (by omega) y
  rw [rgF_rts hI hi] at h1
  by_cases c : y < k
  · exact rb_of (S := rt1 μ i) (by unfold bK; rw [if_pos c]) h1
  · exact rb_of (S := r0 μ i) (by unfold bK; rw [if_neg c]) (r0_rb hI hi y)
theorem rtR_rb {μ : Nat → Int32} {i r : Nat} {R : RT} (hr : r < 19) (h : Rb R) : Rb (rtR μ i r R) := fun y => by
  by_cases c : y < nN μ ∧ y ≠ i ∧ rs R y = 0
  · have e : rtR μ i r R y = two2 (mnx (gB μ i R r y) (rx R) (nN μ)) (r + 1) := by
      unfold rtR
      rw [if_pos c]
    unfold rs rx
    rw [e]
    cases q : mnx (gB μ i R r y) (rx R) (nN μ) with
    | none => exact ⟨show 0 < 20 by decide, show 0 < 20 by decide⟩
    | some v =>
      obtain ⟨x, _, _, hx⟩ := mnx_some q
      have := (h x).2
      exact ⟨show r + 1 < 20 by omega, show v < 20 by omega⟩
  · exact rb_of (S := R) (by unfold rtR; rw [if_neg c]) (h y)
theorem rts_rb {μ : Nat → Int32} {i : Nat} (hI : MI μ) (hi : i < 8) : ∀ r, r < 18 → Rb (rts μ i r) := fun r hr => by
  rw [← rgF_rts hI hi]
  exact rgF_rb hI hi r hr
theorem fK_rb {μ : Nat → Int32} {i r k : Nat} {R : RT} (hr : r < 19) (h : Rb R) : Rb (fK μ i r R k) := fun y => by
  by_cases c : y < k
  · exact rb_of (S := rtR μ i r R) (by unfold fK; rw [if_pos c]) (rtR_rb hr h y)
  · exact rb_of (S := R) (by unfold fK; rw [if_neg c]) (h y)
theorem bK_r1 {μ : Nat → Int32} {i k : Nat} (hI : MI μ) (hi : i < 8) : R1 (bK μ i k) := fun y p e => by
  unfold bK at e
  by_cases c : y < k
  · rw [if_pos c] at e
    exact (rt1_lv hI hi).r1 y p e
  · rw [if_neg c] at e
    unfold r0 at e
    split at e
    · cases e
      exact Nat.le_refl _
    · cases e
def CA (σ : Mem) (μ : Nat → Int32) : Prop := ∀ j, j < nN μ → CR σ j (rts μ j 6) (nN μ)
theorem CA.fr {μ : Nat → Int32} {σ σ' : Mem} (h : CA σ μ) (hI : MI μ) (f : ∀ a, 15200 ≤ a → a < 15328 → σ' a = σ a) : CA σ' μ := fun j hj => by
  have h8 := mi_8 hI
  exact (h j hj).fr (fun a h1 h2 => f a h1 (by omega))

set_option maxRecDepth 100000 in
set_option maxHeartbeats 4000000 in
theorem c_reachBehind {l : Launch} {w : Wd} (hW : Wi w) {σ : Mem} (i o : Nat) (R : RT) (m : Nat) (μ : Nat → Int32) (hm : m < 6) (hv : vw (vb m) σ = μ) (hI : MI μ) (hi : i < 8) (ho : o < nN μ) (hn : R o = none) (hcCR_σ : CR σ i R (nN μ)) : MC l w qX8_reachBehind 1 [.ref (w.1 20), .ref (w.1 (mc m 0)), .int (nI i), .int (nI o)] σ none (fun σ' => (CR σ' i (oset R o (fs (knB μ i o) (nN μ)) 2) (nN μ)) ∧ (∀ a, ((a < 15200 + 8 * i ∨ 15208 + 8 * i ≤ a) ∧ (a < 15264 + 8 * i ∨ 15272 + 8 * i ≤ a)) → σ' a = σ a)) := by
  refine MC.of hW (by decide +kernel) (Nat.le_of_ble_eq_true rfl) (fun X h hQ hnm => ?_)
  have h : Fx X w cX8_reachBehind 6 RX8 1 := h
  have hQ : Qx X w none none (fun σ' => (CR σ' i (oset R o (fs (knB μ i o) (nN μ)) 2) (nN μ)) ∧ (∀ a, ((a < 15200 + 8 * i ∨ 15208 + 8 * i ≤ a) ∧ (a < 15264 + 8 * i ∨ 15272 + 8 * i ≤ a)) → σ' a = σ a)) := hQ
  have hN8 := mi_8 hI
  have hcFR_σ : ∀ a, ((a < 15200 + 8 * i ∨ 15208 + 8 * i ≤ a) ∧ (a < 15264 + 8 * i ∨ 15272 + 8 * i ≤ a)) → σ a = σ a := fun _ _ => rfl
  show G X w 6 0 [(0, .ref (w.1 20)), (1, .ref (w.1 (mc m 0))), (2, .int (nI i)), (3, .int (nI o))] [] σ
  refine g_aload_n h dX8_reachBehind_0 1 rfl ?_
  refine g_geti h dX8_reachBehind_1 gX8_18 (sM_0 (m := m) (by omega)) rfl ?_
  refine g_top (y := μ 0) (vw_pic (b := (vb m)) (k := 0) (by first | exact hv | assumption) (by omega)) ?_
  refine g_top (y := nI (nN μ)) (mi_0 (by assumption)) ?_
  refine g_iconst h dX8_reachBehind_4 (by decide) ?_
  refine g_isub h dX8_reachBehind_5  ?_
  refine g_top (y := (pI (nN μ))) pI_of ?_
  refine g_istore (L' := [(0, .ref (w.1 20)), (1, .ref (w.1 (mc m 0))), (2, .int (nI i)), (3, .int (nI o)), (4, .int (pI (nN μ)))]) h dX8_reachBehind_6 rfl (by decide) rfl ?_
  have lp8 : ∀ (k9 : Nat) (jj : Nat) (R1 : RT) (τ : Mem) (v : Option Nat), (R1 = oset R o v 2) → (jj ≤ nN μ) → (FdX (knB μ i o) jj (nN μ) v) → (vw (vb m) τ = μ) → (CR τ i R1 (nN μ)) → (∀ a, ((a < 15200 + 8 * i ∨ 15208 + 8 * i ≤ a) ∧ (a < 15264 + 8 * i ∨ 15272 + 8 * i ≤ a)) → τ a = σ a) → jj < k9 → G X w 6 8 [(0, .ref (w.1 20)), (1, .ref (w.1 (mc m 0))), (2, .int (nI i)), (3, .int (nI o)), (4, .int (pI jj))] [] (τ) := by
    intro k9
    induction k9 with
    | zero => intro jj R1 τ v hR1 hjj hF hvτ hcCR_τ hcFR_τ hm9; exact absurd hm9 (Nat.not_lt_zero _)
    | succ k9 ih8 =>
      intro jj R1 τ v hR1 hjj hF hvτ hcCR_τ hcFR_τ hm8
      rcases jj with _ | jq
      ·
        show G X w 6 8 [(0, .ref (w.1 20)), (1, .ref (w.1 (mc m 0))), (2, .int (nI i)), (3, .int (nI o)), (4, .int (-1))] [] (τ)
        refine g_iload h dX8_reachBehind_8 4 rfl ?_
        refine g_if_lt h dX8_reachBehind_10 (fun c10 => ?_) (fun c10 => absurd c10 (by decide))
        exact g_vret h hQ dX8_reachBehind_84 rfl (by exact ⟨(by rw [← Fd_fs hF, ← hR1]; exact hcCR_τ), (by exact hcFR_τ)⟩)
      ·
        show G X w 6 8 [(0, .ref (w.1 20)), (1, .ref (w.1 (mc m 0))), (2, .int (nI i)), (3, .int (nI o)), (4, .int (nI jq))] [] (τ)
        refine g_iload h dX8_reachBehind_8 4 rfl ?_
        refine g_ifN_lt h dX8_reachBehind_10 (by omega) ?_
        refine g_aload_n h dX8_reachBehind_13 1 rfl ?_
        refine g_getr h dX8_reachBehind_14 gX8_28 (sM_0 (m := m) (by omega)) rfl ?_
        refine g_getr h dX8_reachBehind_17 gX8_32 (sM_4 (m := m) (by omega)) rfl ?_
        refine g_iload_n h dX8_reachBehind_20 2 rfl ?_
        refine g_iald h dX8_reachBehind_21 (sM_8 (m := m) (by omega)) (by omega) ?_
        refine g_top (y := μ (64 + i)) (vw_pic (b := (vb m)) (k := 64 + i) (by first | exact hvτ | assumption) (by omega)) ?_
        refine g_iload h dX8_reachBehind_22 4 rfl ?_
        refine g_cspi (rest := []) h (c_has hW (μ (64 + i)) jq (by omega)) lX5_has mX8_41 (Nat.lt_of_lt_of_le (by decide) (Nat.le_refl _)) (by decide) rfl rfl rfl dX8_reachBehind_24 ?_
        refine g_istore (L' := [(0, .ref (w.1 20)), (1, .ref (w.1 (mc m 0))), (2, .int (nI i)), (3, .int (nI o)), (4, .int (nI jq)), (5, .int (b2i (tb (μ (64 + i)) jq)))]) h dX8_reachBehind_27 rfl (by decide) rfl ?_
        refine g_iload h dX8_reachBehind_29 5 rfl ?_
        refine g_ifB_eq h dX8_reachBehind_31 (fun c31 => ?_) (fun c31 => ?_)
        ·
          refine g_iinc (v := (pI jq)) (L' := [(0, .ref (w.1 20)), (1, .ref (w.1 (mc m 0))), (2, .int (nI i)), (3, .int (nI o)), (4, .int (pI jq)), (5, .int (b2i (tb (μ (64 + i)) jq)))]) h dX8_reachBehind_78 4 rfl rfl (by decide) pI_dec rfl ?_
          refine g_goto h dX8_reachBehind_81 ?_
          exact g_sub [0, 1, 2, 3, 4] rfl (ih8 jq R1 (τ) v (by first | exact hR1 | (rw [hR1]; exact oset_s) | fail | fail) (by omega) (by first | exact Fd_yes hF (by omega) (by simp [knB, c31]) | exact Fd_no hF (by simp [knB, c31]) | fail | fail) (by first | exact hvτ | assumption | fail | fail) (by first | exact hcCR_τ | assumption | fail | fail) (by first | exact hcFR_τ | assumption | fail | fail) (by omega))
        ·
          refine g_aload_n h dX8_reachBehind_34 1 rfl ?_
          refine g_getr h dX8_reachBehind_35 gX8_28 (sM_0 (m := m) (by omega)) rfl ?_
          refine g_getr h dX8_reachBehind_38 gX8_53 (sM_4 (m := m) (by omega)) rfl ?_
          refine g_iload_n h dX8_reachBehind_41 2 rfl ?_
          refine g_iload h dX8_reachBehind_42 4 rfl ?_
          refine g_cspi (rest := [.ref (w.1 (mc m 6))]) h (c_at hW i jq ) lX5_at mX8_37 (Nat.lt_of_lt_of_le (by decide) (Nat.le_refl _)) (by decide) rfl rfl rfl dX8_reachBehind_44 ?_
          refine g_iald h dX8_reachBehind_47 (sM_6 (m := m) (by omega)) (by omega) ?_
          refine g_top (y := μ (144 + (8 * i + jq))) (vw_pic (b := (vb m)) (k := 144 + (8 * i + jq)) (by first | exact hvτ | assumption) (by omega)) ?_
          refine g_iload_n h dX8_reachBehind_48 3 rfl ?_
          refine g_cspi (rest := []) h (c_has hW (μ (144 + (8 * i + jq))) o (by omega)) lX5_has mX8_41 (Nat.lt_of_lt_of_le (by decide) (Nat.le_refl _)) (by decide) rfl rfl rfl dX8_reachBehind_49 ?_
          refine g_ifB_eq h dX8_reachBehind_52 (fun c52 => ?_) (fun c52 => ?_)
          ·
            refine g_iinc (v := (pI jq)) (L' := [(0, .ref (w.1 20)), (1, .ref (w.1 (mc m 0))), (2, .int (nI i)), (3, .int (nI o)), (4, .int (pI jq)), (5, .int (b2i (tb (μ (64 + i)) jq)))]) h dX8_reachBehind_78 4 rfl rfl (by decide) pI_dec rfl ?_
            refine g_goto h dX8_reachBehind_81 ?_
            exact g_sub [0, 1, 2, 3, 4] rfl (ih8 jq R1 (τ) v (by first | exact hR1 | (rw [hR1]; exact oset_s) | fail | fail) (by omega) (by first | exact Fd_yes hF (by omega) (by simp [knB, c31, c52]) | exact Fd_no hF (by simp [knB, c31, c52]) | fail | fail) (by first | exact hvτ | assumption | fail | fail) (by first | exact hcCR_τ | assumption | fail | fail) (by first | exact hcFR_τ | assumption | fail | fail) (by omega))
          ·
            refine g_aload_n h dX8_reachBehind_55 0 rfl ?_
            refine g_getr h dX8_reachBehind_56 gX8_9 sc_20 rfl ?_
            refine g_iload_n h dX8_reachBehind_59 2 rfl ?_
            refine g_iload_n h dX8_reachBehind_60 3 rfl ?_
            refine g_cspi (rest := [.ref (w.1 21)]) h (c_at hW i o ) lX5_at mX8_37 (Nat.lt_of_lt_of_le (by decide) (Nat.le_refl _)) (by decide) rfl rfl rfl dX8_reachBehind_61 ?_
            refine g_iconst h dX8_reachBehind_64 (by decide) ?_
            refine g_iast h dX8_reachBehind_65 sc_21 (by omega) ?_
            refine g_nm (fun σa eσa => ?_)
            have eσa : σa = upd (τ) (15200 + (8 * i + o)) (nI 2) := eσa
            have hcFR_σa : ∀ a, ((a < 15200 + 8 * i ∨ 15208 + 8 * i ≤ a) ∧ (a < 15264 + 8 * i ∨ 15272 + 8 * i ≤ a)) → σa a = σ a := by intro a ha; exact Eq.trans (b := (τ) a) (by rw [eσa, upd_ne (by first | omega | (simp only [vb] at *; omega))]) (hcFR_τ a ha)
            have hvσa : vw (vb m) σa = μ := by rw [eσa, vw_out (by first | omega | (simp only [vb] at *; omega))]; first | exact hvτ | assumption
            refine g_aload_n h dX8_reachBehind_66 0 rfl ?_
            refine g_getr h dX8_reachBehind_67 gX8_15 sc_20 rfl ?_
            refine g_iload_n h dX8_reachBehind_70 2 rfl ?_
            refine g_iload_n h dX8_reachBehind_71 3 rfl ?_
            refine g_cspi (rest := [.ref (w.1 22)]) h (c_at hW i o ) lX5_at mX8_37 (Nat.lt_of_lt_of_le (by decide) (Nat.le_refl _)) (by decide) rfl rfl rfl dX8_reachBehind_72 ?_
            refine g_iload h dX8_reachBehind_75 4 rfl ?_
            refine g_iast h dX8_reachBehind_77 sc_22 (by omega) ?_
            refine g_nm (fun σb eσb => ?_)
            have eσb : σb = upd σa (15264 + (8 * i + o)) (nI jq) := eσb
            have hcFR_σb : ∀ a, ((a < 15200 + 8 * i ∨ 15208 + 8 * i ≤ a) ∧ (a < 15264 + 8 * i ∨ 15272 + 8 * i ≤ a)) → σb a = σ a := by intro a ha; exact Eq.trans (b := σa a) (by rw [eσb, upd_ne (by first | omega | (simp only [vb] at *; omega))]) (hcFR_σa a ha)
            have hvσb : vw (vb m) σb = μ := by rw [eσb, vw_out (by first | omega | (simp only [vb] at *; omega))]; first | exact hvσa | assumption
            have hcCR_σb : CR σb i (rset R1 o (2, jq)) (nN μ) := CR.set hcCR_τ hi hN8 ho eσa eσb
            refine g_iinc (v := (pI jq)) (L' := [(0, .ref (w.1 20)), (1, .ref (w.1 (mc m 0))), (2, .int (nI i)), (3, .int (nI o)), (4, .int (pI jq)), (5, .int (b2i (tb (μ (64 + i)) jq)))]) h dX8_reachBehind_78 4 rfl rfl (by decide) pI_dec rfl ?_
            refine g_goto h dX8_reachBehind_81 ?_
            exact g_sub [0, 1, 2, 3, 4] rfl (ih8 jq (rset R1 o (2, jq)) σb (some jq) (by first | exact hR1 | (rw [hR1]; exact oset_s) | fail | fail) (by omega) (by first | exact Fd_yes hF (by omega) (by simp [knB, c31, c52]) | exact Fd_no hF (by simp [knB, c31, c52]) | fail | fail) (by first | exact hvσb | assumption | fail | fail) (by first | exact hcCR_σb | assumption | fail | fail) (by first | exact hcFR_σb | assumption | fail | fail) (by omega))
  exact lp8 (_) (nN μ) R σ none (by exact oset_0 hn) (by omega) (by exact Fd_init) (by first | exact hv | assumption | fail | fail) (by first | exact hcCR_σ | assumption | fail | fail) (by first | exact hcFR_σ | assumption | fail | fail) (Nat.lt_succ_self _)

set_option maxRecDepth 100000 in
set_option maxHeartbeats 4000000 in
theorem c_reachFurther {l : Launch} {w : Wd} (hW : Wi w) {σ : Mem} (i o r : Nat) (R : RT) (m : Nat) (μ : Nat → Int32) (hm : m < 6) (hv : vw (vb m) σ = μ) (hI : MI μ) (hi : i < 8) (ho : o < nN μ) (hr : 1 ≤ r ∧ r ≤ 8) (hb : Rb R) (hcCR_σ : CR σ i R (nN μ)) : MC l w qX8_reachFurther 1 [.ref (w.1 20), .ref (w.1 (mc m 0)), .int (nI i), .int (nI o), .int (nI (r + 1))] σ none (fun σ' => (CR σ' i (fur R o (mnx (gB μ i R r o) (rx R) (nN μ)) r) (nN μ)) ∧ (∀ a, ((a < 15200 + 8 * i ∨ 15208 + 8 * i ≤ a) ∧ (a < 15264 + 8 * i ∨ 15272 + 8 * i ≤ a)) → σ' a = σ a)) := by
  refine MC.of hW (by decide +kernel) (Nat.le_of_ble_eq_true rfl) (fun X h hQ hnm => ?_)
  have h : Fx X w cX8_reachFurther 9 RX8 1 := h
  have hQ : Qx X w none none (fun σ' => (CR σ' i (fur R o (mnx (gB μ i R r o) (rx R) (nN μ)) r) (nN μ)) ∧ (∀ a, ((a < 15200 + 8 * i ∨ 15208 + 8 * i ≤ a) ∧ (a < 15264 + 8 * i ∨ 15272 + 8 * i ≤ a)) → σ' a = σ a)) := hQ
  have hN8 := mi_8 hI
  have hcFR_σ : ∀ a, ((a < 15200 + 8 * i ∨ 15208 + 8 * i ≤ a) ∧ (a < 15264 + 8 * i ∨ 15272 + 8 * i ≤ a)) → σ a = σ a := fun _ _ => rfl
  show G X w 9 0 [(0, .ref (w.1 20)), (1, .ref (w.1 (mc m 0))), (2, .int (nI i)), (3, .int (nI o)), (4, .int (nI (r + 1)))] [] σ
  refine g_iconstv h dX8_reachFurther_0 (v := (-1)) (by decide) ?_
  refine g_istore (L' := [(0, .ref (w.1 20)), (1, .ref (w.1 (mc m 0))), (2, .int (nI i)), (3, .int (nI o)), (4, .int (nI (r + 1))), (5, .int (-1))]) h dX8_reachFurther_1 rfl (by decide) rfl ?_
  refine g_iconst h dX8_reachFurther_3 (by decide) ?_
  refine g_istore (L' := [(0, .ref (w.1 20)), (1, .ref (w.1 (mc m 0))), (2, .int (nI i)), (3, .int (nI o)), (4, .int (nI (r + 1))), (5, .int (-1)), (6, .int (nI 0))]) h dX8_reachFurther_4 rfl (by decide) rfl ?_
  have lp6 : ∀ (k9 : Nat) (v : Option Nat) (x : Nat), (v = mnx (gB μ i R r o) (rx R) x) → (x ≤ nN μ) → (∀ w, v = some w → w < 20) → nN μ - x < k9 → G X w 9 6 [(0, .ref (w.1 20)), (1, .ref (w.1 (mc m 0))), (2, .int (nI i)), (3, .int (nI o)), (4, .int (nI (r + 1))), (5, .int (oI v)), (6, .int (nI x))] [] σ := by
    intro k9
    induction k9 with
    | zero => intro v x hv2 hx hw hm9; exact absurd hm9 (Nat.not_lt_zero _)
    | succ k9 ih6 =>
      intro v x hv2 hx hw hm6
      have bx := hb x
      refine g_iload h dX8_reachFurther_6 6 rfl ?_
      refine g_aload_n h dX8_reachFurther_8 1 rfl ?_
      refine g_geti h dX8_reachFurther_9 gX8_18 (sM_0 (m := m) (by omega)) rfl ?_
      refine g_top (y := μ 0) (vw_pic (b := (vb m)) (k := 0) (by first | exact hv | assumption) (by omega)) ?_
      refine g_top (y := nI (nN μ)) (mi_0 (by assumption)) ?_
      refine g_icmpN_ge h dX8_reachFurther_12 (by omega) (by omega) (fun c12 => ?_) (fun c12 => ?_)
      ·
        rcases v with _ | wq
        ·
          show G X w 9 112 [(0, .ref (w.1 20)), (1, .ref (w.1 (mc m 0))), (2, .int (nI i)), (3, .int (nI o)), (4, .int (nI (r + 1))), (5, .int (-1)), (6, .int (nI x))] [] σ
          refine g_iload h dX8_reachFurther_112 5 rfl ?_
          refine g_iconstv h dX8_reachFurther_114 (v := (-1)) (by decide) ?_
          refine g_icmp_eq h dX8_reachFurther_115 (fun c115 => ?_) (fun c115 => (by exfalso; first | exact c115 rfl | exact nI_ne_m1 (by omega) c115 | exact c115 (nI_ne_m1 (by omega)) | exact nI_le_m1 (by omega) c115 | exact c115 (m1_lt (by omega)) | exact absurd c115 (by decide)))
          exact g_vret h hQ dX8_reachFurther_142 rfl (by exact ⟨(by have e9 : x = nN μ := (by omega); rw [e9] at hv2; rw [← hv2]; exact hcCR_σ), (by exact hcFR_σ)⟩)
        ·
          have hw9 := hw wq rfl
          show G X w 9 112 [(0, .ref (w.1 20)), (1, .ref (w.1 (mc m 0))), (2, .int (nI i)), (3, .int (nI o)), (4, .int (nI (r + 1))), (5, .int (nI wq)), (6, .int (nI x))] [] σ
          refine g_iload h dX8_reachFurther_112 5 rfl ?_
          refine g_iconstv h dX8_reachFurther_114 (v := (-1)) (by decide) ?_
          refine g_icmp_eq h dX8_reachFurther_115 (fun c115 => (by exfalso; first | exact c115 rfl | exact nI_ne_m1 (by omega) c115 | exact c115 (nI_ne_m1 (by omega)) | exact nI_le_m1 (by omega) c115 | exact c115 (m1_lt (by omega)) | exact absurd c115 (by decide))) (fun c115 => ?_)
          refine g_aload_n h dX8_reachFurther_118 0 rfl ?_
          refine g_getr h dX8_reachFurther_119 gX8_9 sc_20 rfl ?_
          refine g_iload_n h dX8_reachFurther_122 2 rfl ?_
          refine g_iload_n h dX8_reachFurther_123 3 rfl ?_
          refine g_cspi (rest := [.ref (w.1 21)]) h (c_at hW i o ) lX5_at mX8_37 (Nat.lt_of_lt_of_le (by decide) (Nat.le_refl _)) (by decide) rfl rfl rfl dX8_reachFurther_124 ?_
          refine g_iload h dX8_reachFurther_127 4 rfl ?_
          refine g_iast h dX8_reachFurther_129 sc_21 (by omega) ?_
          refine g_nm (fun σa eσa => ?_)
          have eσa : σa = upd σ (15200 + (8 * i + o)) (nI (r + 1)) := eσa
          have hcFR_σa : ∀ a, ((a < 15200 + 8 * i ∨ 15208 + 8 * i ≤ a) ∧ (a < 15264 + 8 * i ∨ 15272 + 8 * i ≤ a)) → σa a = σ a := by intro a ha; exact Eq.trans (b := σ a) (by rw [eσa, upd_ne (by first | omega | (simp only [vb] at *; omega))]) (hcFR_σ a ha)
          have hvσa : vw (vb m) σa = μ := by rw [eσa, vw_out (by first | omega | (simp only [vb] at *; omega))]; first | exact hv | assumption
          refine g_aload_n h dX8_reachFurther_130 0 rfl ?_
          refine g_getr h dX8_reachFurther_131 gX8_15 sc_20 rfl ?_
          refine g_iload_n h dX8_reachFurther_134 2 rfl ?_
          refine g_iload_n h dX8_reachFurther_135 3 rfl ?_
          refine g_cspi (rest := [.ref (w.1 22)]) h (c_at hW i o ) lX5_at mX8_37 (Nat.lt_of_lt_of_le (by decide) (Nat.le_refl _)) (by decide) rfl rfl rfl dX8_reachFurther_136 ?_
          refine g_iload h dX8_reachFurther_139 5 rfl ?_
          refine g_iast h dX8_reachFurther_141 sc_22 (by omega) ?_
          refine g_nm (fun σb eσb => ?_)
          have eσb : σb = upd σa (15264 + (8 * i + o)) (nI wq) := eσb
          have hcFR_σb : ∀ a, ((a < 15200 + 8 * i ∨ 15208 + 8 * i ≤ a) ∧ (a < 15264 + 8 * i ∨ 15272 + 8 * i ≤ a)) → σb a = σ a := by intro a ha; exact Eq.trans (b := σa a) (by rw [eσb, upd_ne (by first | omega | (simp only [vb] at *; omega))]) (hcFR_σa a ha)
          have hvσb : vw (vb m) σb = μ := by rw [eσb, vw_out (by first | omega | (simp only [vb] at *; omega))]; first | exact hvσa | assumption
          have hcCR_σb : CR σb i (rset R o (r + 1, wq)) (nN μ) := CR.set hcCR_σ hi hN8 ho eσa eσb
          exact g_vret h hQ dX8_reachFurther_142 rfl (by exact ⟨(by have e9 : x = nN μ := (by omega); rw [e9] at hv2; rw [← hv2]; exact hcCR_σb), (by exact hcFR_σb)⟩)
      ·
        refine g_iload_n h dX8_reachFurther_15 2 rfl ?_
        refine g_iload h dX8_reachFurther_16 6 rfl ?_
        refine g_cspi (rest := []) h (c_at hW i x ) lX5_at mX8_37 (Nat.lt_of_lt_of_le (by decide) (Nat.le_refl _)) (by decide) rfl rfl rfl dX8_reachFurther_18 ?_
        refine g_istore (L' := [(0, .ref (w.1 20)), (1, .ref (w.1 (mc m 0))), (2, .int (nI i)), (3, .int (nI o)), (4, .int (nI (r + 1))), (5, .int (oI v)), (6, .int (nI x)), (7, .int (nI (8 * i + x)))]) h dX8_reachFurther_21 rfl (by decide) rfl ?_
        refine g_aload_n h dX8_reachFurther_23 1 rfl ?_
        refine g_getr h dX8_reachFurther_24 gX8_56 (sM_0 (m := m) (by omega)) rfl ?_
        refine g_getr h dX8_reachFurther_27 gX8_60 (sM_11 (m := m) (by omega)) rfl ?_
        refine g_iload h dX8_reachFurther_30 7 rfl ?_
        refine g_iald h dX8_reachFurther_32 (sM_14 (m := m) (by omega)) (by omega) ?_
        refine g_top (y := μ (400 + (8 * i + x))) (vw_pic (b := (vb m)) (k := 400 + (8 * i + x)) (by first | exact hv | assumption) (by omega)) ?_
        refine g_top (y := nI (nA μ (400 + (8 * i + x)))) (mi_400 (by assumption) (by omega)) ?_
        have b9_32 : nA μ (400 + (8 * i + x)) < 100 := mb_400 (by assumption) (by omega)
        refine g_ifN_le h dX8_reachFurther_33 (by omega) (fun c33 => ?_) (fun c33 => ?_)
        ·
          refine g_iconst h dX8_reachFurther_57 (by decide) ?_
          refine g_istore (L' := [(0, .ref (w.1 20)), (1, .ref (w.1 (mc m 0))), (2, .int (nI i)), (3, .int (nI o)), (4, .int (nI (r + 1))), (5, .int (oI v)), (6, .int (nI x)), (7, .int (nI (8 * i + x))), (8, .int (nI 0))]) h dX8_reachFurther_58 rfl (by decide) rfl ?_
          refine g_iload h dX8_reachFurther_60 8 rfl ?_
          refine g_ifN_eq h dX8_reachFurther_62 (by decide) (fun c62 => ?_) (fun c62 => absurd c62 (by decide))
          refine g_iincN (b := 1) (L' := [(0, .ref (w.1 20)), (1, .ref (w.1 (mc m 0))), (2, .int (nI i)), (3, .int (nI o)), (4, .int (nI (r + 1))), (5, .int (oI v)), (6, .int (nI (x + 1))), (7, .int (nI (8 * i + x))), (8, .int (nI 0))]) h dX8_reachFurther_106 6 rfl rfl (by decide) (by decide) rfl ?_
          refine g_goto h dX8_reachFurther_109 ?_
          exact g_sub [0, 1, 2, 3, 4, 5, 6] rfl (ih6 v (x + 1) (by simp only [mnx]; rw [← hv2]; first | (simp [gB, mo, c12, c33]; done) | (simp [gB, mo, c12, c33]; omega)) (by omega) (by first | assumption | (intro w9 e9; cases e9; omega) | fail | fail) (by omega))
        ·
          refine g_aload_n h dX8_reachFurther_36 1 rfl ?_
          refine g_getr h dX8_reachFurther_37 gX8_56 (sM_0 (m := m) (by omega)) rfl ?_
          refine g_getr h dX8_reachFurther_40 gX8_65 (sM_11 (m := m) (by omega)) rfl ?_
          refine g_iload h dX8_reachFurther_43 7 rfl ?_
          refine g_iald h dX8_reachFurther_45 (sM_12 (m := m) (by omega)) (by omega) ?_
          refine g_top (y := μ (272 + (8 * i + x))) (vw_pic (b := (vb m)) (k := 272 + (8 * i + x)) (by first | exact hv | assumption) (by omega)) ?_
          refine g_iload_n h dX8_reachFurther_46 3 rfl ?_
          refine g_cspi (rest := []) h (c_has hW (μ (272 + (8 * i + x))) o (by omega)) lX5_has mX8_41 (Nat.lt_of_lt_of_le (by decide) (Nat.le_refl _)) (by decide) rfl rfl rfl dX8_reachFurther_47 ?_
          refine g_ifB_eq h dX8_reachFurther_50 (fun c50 => ?_) (fun c50 => ?_)
          ·
            refine g_iconst h dX8_reachFurther_57 (by decide) ?_
            refine g_istore (L' := [(0, .ref (w.1 20)), (1, .ref (w.1 (mc m 0))), (2, .int (nI i)), (3, .int (nI o)), (4, .int (nI (r + 1))), (5, .int (oI v)), (6, .int (nI x)), (7, .int (nI (8 * i + x))), (8, .int (nI 0))]) h dX8_reachFurther_58 rfl (by decide) rfl ?_
            refine g_iload h dX8_reachFurther_60 8 rfl ?_
            refine g_ifN_eq h dX8_reachFurther_62 (by decide) (fun c62 => ?_) (fun c62 => absurd c62 (by decide))
            refine g_iincN (b := 1) (L' := [(0, .ref (w.1 20)), (1, .ref (w.1 (mc m 0))), (2, .int (nI i)), (3, .int (nI o)), (4, .int (nI (r + 1))), (5, .int (oI v)), (6, .int (nI (x + 1))), (7, .int (nI (8 * i + x))), (8, .int (nI 0))]) h dX8_reachFurther_106 6 rfl rfl (by decide) (by decide) rfl ?_
            refine g_goto h dX8_reachFurther_109 ?_
            exact g_sub [0, 1, 2, 3, 4, 5, 6] rfl (ih6 v (x + 1) (by simp only [mnx]; rw [← hv2]; first | (simp [gB, mo, c12, c33, c50]; done) | (simp [gB, mo, c12, c33, c50]; omega)) (by omega) (by first | assumption | (intro w9 e9; cases e9; omega) | fail | fail) (by omega))
          ·
            refine g_iconst h dX8_reachFurther_53 (by decide) ?_
            refine g_goto h dX8_reachFurther_54 ?_
            refine g_istore (L' := [(0, .ref (w.1 20)), (1, .ref (w.1 (mc m 0))), (2, .int (nI i)), (3, .int (nI o)), (4, .int (nI (r + 1))), (5, .int (oI v)), (6, .int (nI x)), (7, .int (nI (8 * i + x))), (8, .int (nI 1))]) h dX8_reachFurther_58 rfl (by decide) rfl ?_
            refine g_iload h dX8_reachFurther_60 8 rfl ?_
            refine g_ifN_eq h dX8_reachFurther_62 (by decide) (fun c62 => absurd c62 (by decide)) (fun c62 => ?_)
            refine g_aload_n h dX8_reachFurther_65 0 rfl ?_
            refine g_getr h dX8_reachFurther_66 gX8_9 sc_20 rfl ?_
            refine g_iload h dX8_reachFurther_69 7 rfl ?_
            refine g_iald h dX8_reachFurther_71 sc_21 (by omega) ?_
            refine g_top (y := (nI (rs R x))) ((hcCR_σ x (by omega)).1) ?_
            refine g_iload h dX8_reachFurther_72 4 rfl ?_
            refine g_iconst h dX8_reachFurther_74 (by decide) ?_
            refine g_isubN h dX8_reachFurther_75 (by omega) ?_
            refine g_icmpN_ne h dX8_reachFurther_76 (by omega) (by omega) (fun c76 => ?_) (fun c76 => ?_)
            ·
              refine g_iincN (b := 1) (L' := [(0, .ref (w.1 20)), (1, .ref (w.1 (mc m 0))), (2, .int (nI i)), (3, .int (nI o)), (4, .int (nI (r + 1))), (5, .int (oI v)), (6, .int (nI (x + 1))), (7, .int (nI (8 * i + x))), (8, .int (nI 1))]) h dX8_reachFurther_106 6 rfl rfl (by decide) (by decide) rfl ?_
              refine g_goto h dX8_reachFurther_109 ?_
              exact g_sub [0, 1, 2, 3, 4, 5, 6] rfl (ih6 v (x + 1) (by simp only [mnx]; rw [← hv2]; first | (simp [gB, mo, c12, c33, c50, c76]; done) | (simp [gB, mo, c12, c33, c50, c76]; omega)) (by omega) (by first | assumption | (intro w9 e9; cases e9; omega) | fail | fail) (by omega))
            ·
              rcases v with _ | wq
              ·
                show G X w 9 79 [(0, .ref (w.1 20)), (1, .ref (w.1 (mc m 0))), (2, .int (nI i)), (3, .int (nI o)), (4, .int (nI (r + 1))), (5, .int (-1)), (6, .int (nI x)), (7, .int (nI (8 * i + x))), (8, .int (nI 1))] [] σ
                refine g_iload h dX8_reachFurther_79 5 rfl ?_
                refine g_iconstv h dX8_reachFurther_81 (v := (-1)) (by decide) ?_
                refine g_icmp_eq h dX8_reachFurther_82 (fun c82 => ?_) (fun c82 => (by exfalso; first | exact c82 rfl | exact nI_ne_m1 (by omega) c82 | exact c82 (nI_ne_m1 (by omega)) | exact nI_le_m1 (by omega) c82 | exact c82 (m1_lt (by omega)) | exact absurd c82 (by decide)))
                refine g_aload_n h dX8_reachFurther_97 0 rfl ?_
                refine g_getr h dX8_reachFurther_98 gX8_15 sc_20 rfl ?_
                refine g_iload h dX8_reachFurther_101 7 rfl ?_
                refine g_iald h dX8_reachFurther_103 sc_22 (by omega) ?_
                refine g_top (y := (nI (rx R x))) (by rw [(hcCR_σ x (by omega)).2]; exact rn_rx (by omega)) ?_
                refine g_istore (L' := [(0, .ref (w.1 20)), (1, .ref (w.1 (mc m 0))), (2, .int (nI i)), (3, .int (nI o)), (4, .int (nI (r + 1))), (5, .int (nI (rx R x))), (6, .int (nI x)), (7, .int (nI (8 * i + x))), (8, .int (nI 1))]) h dX8_reachFurther_104 rfl (by decide) rfl ?_
                refine g_iincN (b := 1) (L' := [(0, .ref (w.1 20)), (1, .ref (w.1 (mc m 0))), (2, .int (nI i)), (3, .int (nI o)), (4, .int (nI (r + 1))), (5, .int (nI (rx R x))), (6, .int (nI (x + 1))), (7, .int (nI (8 * i + x))), (8, .int (nI 1))]) h dX8_reachFurther_106 6 rfl rfl (by decide) (by decide) rfl ?_
                refine g_goto h dX8_reachFurther_109 ?_
                exact g_sub [0, 1, 2, 3, 4, 5, 6] rfl (ih6 (some (rx R x)) (x + 1) (by simp only [mnx]; rw [← hv2]; first | (simp [gB, mo, c12, c33, c50, c76]; done) | (simp [gB, mo, c12, c33, c50, c76]; omega)) (by omega) (by first | assumption | (intro w9 e9; cases e9; omega) | fail | fail) (by omega))
              ·
                have hw9 := hw wq rfl
                show G X w 9 79 [(0, .ref (w.1 20)), (1, .ref (w.1 (mc m 0))), (2, .int (nI i)), (3, .int (nI o)), (4, .int (nI (r + 1))), (5, .int (nI wq)), (6, .int (nI x)), (7, .int (nI (8 * i + x))), (8, .int (nI 1))] [] σ
                refine g_iload h dX8_reachFurther_79 5 rfl ?_
                refine g_iconstv h dX8_reachFurther_81 (v := (-1)) (by decide) ?_
                refine g_icmp_eq h dX8_reachFurther_82 (fun c82 => (by exfalso; first | exact c82 rfl | exact nI_ne_m1 (by omega) c82 | exact c82 (nI_ne_m1 (by omega)) | exact nI_le_m1 (by omega) c82 | exact c82 (m1_lt (by omega)) | exact absurd c82 (by decide))) (fun c82 => ?_)
                refine g_aload_n h dX8_reachFurther_85 0 rfl ?_
                refine g_getr h dX8_reachFurther_86 gX8_15 sc_20 rfl ?_
                refine g_iload h dX8_reachFurther_89 7 rfl ?_
                refine g_iald h dX8_reachFurther_91 sc_22 (by omega) ?_
                refine g_top (y := (nI (rx R x))) (by rw [(hcCR_σ x (by omega)).2]; exact rn_rx (by omega)) ?_
                refine g_iload h dX8_reachFurther_92 5 rfl ?_
                refine g_icmpN_ge h dX8_reachFurther_94 (by omega) (by omega) (fun c94 => ?_) (fun c94 => ?_)
                ·
                  refine g_iincN (b := 1) (L' := [(0, .ref (w.1 20)), (1, .ref (w.1 (mc m 0))), (2, .int (nI i)), (3, .int (nI o)), (4, .int (nI (r + 1))), (5, .int (nI wq)), (6, .int (nI (x + 1))), (7, .int (nI (8 * i + x))), (8, .int (nI 1))]) h dX8_reachFurther_106 6 rfl rfl (by decide) (by decide) rfl ?_
                  refine g_goto h dX8_reachFurther_109 ?_
                  exact g_sub [0, 1, 2, 3, 4, 5, 6] rfl (ih6 (some wq) (x + 1) (by simp only [mnx]; rw [← hv2]; first | (simp [gB, mo, c12, c33, c50, c76, c94]; done) | (simp [gB, mo, c12, c33, c50, c76, c94]; omega)) (by omega) (by first | assumption | (intro w9 e9; cases e9; omega) | fail | fail) (by omega))
                ·
                  refine g_aload_n h dX8_reachFurther_97 0 rfl ?_
                  refine g_getr h dX8_reachFurther_98 gX8_15 sc_20 rfl ?_
                  refine g_iload h dX8_reachFurther_101 7 rfl ?_
                  refine g_iald h dX8_reachFurther_103 sc_22 (by omega) ?_
                  refine g_top (y := (nI (rx R x))) (by rw [(hcCR_σ x (by omega)).2]; exact rn_rx (by omega)) ?_
                  refine g_istore (L' := [(0, .ref (w.1 20)), (1, .ref (w.1 (mc m 0))), (2, .int (nI i)), (3, .int (nI o)), (4, .int (nI (r + 1))), (5, .int (nI (rx R x))), (6, .int (nI x)), (7, .int (nI (8 * i + x))), (8, .int (nI 1))]) h dX8_reachFurther_104 rfl (by decide) rfl ?_
                  refine g_iincN (b := 1) (L' := [(0, .ref (w.1 20)), (1, .ref (w.1 (mc m 0))), (2, .int (nI i)), (3, .int (nI o)), (4, .int (nI (r + 1))), (5, .int (nI (rx R x))), (6, .int (nI (x + 1))), (7, .int (nI (8 * i + x))), (8, .int (nI 1))]) h dX8_reachFurther_106 6 rfl rfl (by decide) (by decide) rfl ?_
                  refine g_goto h dX8_reachFurther_109 ?_
                  exact g_sub [0, 1, 2, 3, 4, 5, 6] rfl (ih6 (some (rx R x)) (x + 1) (by simp only [mnx]; rw [← hv2]; first | (simp [gB, mo, c12, c33, c50, c76, c94]; done) | (simp [gB, mo, c12, c33, c50, c76, c94]; omega)) (by omega) (by first | assumption | (intro w9 e9; cases e9; omega) | fail | fail) (by omega))
  exact lp6 (_) none 0 (by rfl) (by omega) (by intro w e; cases e) (Nat.lt_succ_self _)

set_option maxRecDepth 100000 in
set_option maxHeartbeats 4000000 in
theorem c_find {l : Launch} {w : Wd} (hW : Wi w) {σ : Mem} (i : Nat) (m : Nat) (μ : Nat → Int32) (hm : m < 6) (hv : vw (vb m) σ = μ) (hI : MI μ) (hi : i < 8) : MC l w qX8_find 2 [.ref (w.1 20), .ref (w.1 (mc m 0)), .int (nI i)] σ none (fun σ' => (CR σ' i (rts μ i 6) (nN μ)) ∧ (∀ a, ((a < 15200 + 8 * i ∨ 15208 + 8 * i ≤ a) ∧ (a < 15264 + 8 * i ∨ 15272 + 8 * i ≤ a)) → σ' a = σ a)) := by
  refine MC.of hW (by decide +kernel) (Nat.le_of_ble_eq_true rfl) (fun X h hQ hnm => ?_)
  have h : Fx X w cX8_find 7 RX8 2 := h
  have hQ : Qx X w none none (fun σ' => (CR σ' i (rts μ i 6) (nN μ)) ∧ (∀ a, ((a < 15200 + 8 * i ∨ 15208 + 8 * i ≤ a) ∧ (a < 15264 + 8 * i ∨ 15272 + 8 * i ≤ a)) → σ' a = σ a)) := hQ
  have hN8 := mi_8 hI
  have hcFR_σ : ∀ a, ((a < 15200 + 8 * i ∨ 15208 + 8 * i ≤ a) ∧ (a < 15264 + 8 * i ∨ 15272 + 8 * i ≤ a)) → σ a = σ a := fun _ _ => rfl
  show G X w 7 0 [(0, .ref (w.1 20)), (1, .ref (w.1 (mc m 0))), (2, .int (nI i))] [] σ
  refine g_aload_n h dX8_find_0 1 rfl ?_
  refine g_getr h dX8_find_1 gX8_28 (sM_0 (m := m) (by omega)) rfl ?_
  refine g_getr h dX8_find_4 gX8_32 (sM_4 (m := m) (by omega)) rfl ?_
  refine g_iload_n h dX8_find_7 2 rfl ?_
  refine g_iald h dX8_find_8 (sM_8 (m := m) (by omega)) (by omega) ?_
  refine g_top (y := μ (64 + i)) (vw_pic (b := (vb m)) (k := 64 + i) (by first | exact hv | assumption) (by omega)) ?_
  refine g_istore_n (L' := [(0, .ref (w.1 20)), (1, .ref (w.1 (mc m 0))), (2, .int (nI i)), (3, .int (μ (64 + i)))]) h dX8_find_9 rfl (by decide) rfl ?_
  refine g_iconst h dX8_find_10 (by decide) ?_
  refine g_istore (L' := [(0, .ref (w.1 20)), (1, .ref (w.1 (mc m 0))), (2, .int (nI i)), (3, .int (μ (64 + i))), (4, .int (nI 0))]) h dX8_find_11 rfl (by decide) rfl ?_
  have lp13 : ∀ (k9 : Nat) (k : Nat) (τ1 : Mem), (k ≤ nN μ) → (CZ μ i k τ1) → (vw (vb m) τ1 = μ) → (∀ a, ((a < 15200 + 8 * i ∨ 15208 + 8 * i ≤ a) ∧ (a < 15264 + 8 * i ∨ 15272 + 8 * i ≤ a)) → τ1 a = σ a) → nN μ - k < k9 → G X w 7 13 [(0, .ref (w.1 20)), (1, .ref (w.1 (mc m 0))), (2, .int (nI i)), (3, .int (μ (64 + i))), (4, .int (nI k))] [] (τ1) := by
    intro k9
    induction k9 with
    | zero => intro k τ1 hk hz hvτ1 hcFR_τ1 hm9; exact absurd hm9 (Nat.not_lt_zero _)
    | succ k9 ih13 =>
      intro k τ1 hk hz hvτ1 hcFR_τ1 hm13
      refine g_iload h dX8_find_13 4 rfl ?_
      refine g_aload_n h dX8_find_15 1 rfl ?_
      refine g_geti h dX8_find_16 gX8_18 (sM_0 (m := m) (by omega)) rfl ?_
      refine g_top (y := μ 0) (vw_pic (b := (vb m)) (k := 0) (by first | exact hvτ1 | assumption) (by omega)) ?_
      refine g_top (y := nI (nN μ)) (mi_0 (by assumption)) ?_
      refine g_icmpN_ge h dX8_find_19 (by omega) (by omega) (fun c19 => ?_) (fun c19 => ?_)
      ·
        have hcCR_τ1 : CR τ1 i (r0 μ i) (nN μ) := fun y hy => hz y (by omega)
        refine g_iconst h dX8_find_93 (by decide) ?_
        refine g_istore (L' := [(0, .ref (w.1 20)), (1, .ref (w.1 (mc m 0))), (2, .int (nI i)), (3, .int (μ (64 + i))), (4, .int (nI 0))]) h dX8_find_94 rfl (by decide) rfl ?_
        have lp96 : ∀ (k9 : Nat) (k2 : Nat) (R2 : RT) (τ2 : Mem), (R2 = bK μ i k2) → (k2 ≤ nN μ) → (vw (vb m) τ2 = μ) → (∀ a, ((a < 15200 + 8 * i ∨ 15208 + 8 * i ≤ a) ∧ (a < 15264 + 8 * i ∨ 15272 + 8 * i ≤ a)) → τ2 a = σ a) → (CR τ2 i R2 (nN μ)) → nN μ - k2 < k9 → G X w 7 96 [(0, .ref (w.1 20)), (1, .ref (w.1 (mc m 0))), (2, .int (nI i)), (3, .int (μ (64 + i))), (4, .int (nI k2))] [] (τ2) := by
          intro k9
          induction k9 with
          | zero => intro k2 R2 τ2 hR2 hk2 hvτ2 hcFR_τ2 hcCR_τ2 hm9; exact absurd hm9 (Nat.not_lt_zero _)
          | succ k9 ih96 =>
            intro k2 R2 τ2 hR2 hk2 hvτ2 hcFR_τ2 hcCR_τ2 hm96
            have hb2 : Rb R2 := by rw [hR2]; exact bK_rb hI hi
            have b2x := hb2 k2
            refine g_iload h dX8_find_96 4 rfl ?_
            refine g_aload_n h dX8_find_98 1 rfl ?_
            refine g_geti h dX8_find_99 gX8_18 (sM_0 (m := m) (by omega)) rfl ?_
            refine g_top (y := μ 0) (vw_pic (b := (vb m)) (k := 0) (by first | exact hvτ2 | assumption) (by omega)) ?_
            refine g_top (y := nI (nN μ)) (mi_0 (by assumption)) ?_
            refine g_icmpN_ge h dX8_find_102 (by omega) (by omega) (fun c102 => ?_) (fun c102 => ?_)
            ·
              refine g_iconst h dX8_find_139 (by decide) ?_
              refine g_istore (L' := [(0, .ref (w.1 20)), (1, .ref (w.1 (mc m 0))), (2, .int (nI i)), (3, .int (μ (64 + i))), (4, .int (nI 2))]) h dX8_find_140 rfl (by decide) rfl ?_
              have lp142 : ∀ (k9 : Nat) (R3 : RT) (τ3 : Mem) (r : Nat), (R3 = rts μ i r) → (r ≤ 6) → (vw (vb m) τ3 = μ) → (∀ a, ((a < 15200 + 8 * i ∨ 15208 + 8 * i ≤ a) ∧ (a < 15264 + 8 * i ∨ 15272 + 8 * i ≤ a)) → τ3 a = σ a) → (CR τ3 i R3 (nN μ)) → 6 - r < k9 → G X w 7 142 [(0, .ref (w.1 20)), (1, .ref (w.1 (mc m 0))), (2, .int (nI i)), (3, .int (μ (64 + i))), (4, .int (nI (r + 2)))] [] (τ3) := by
                intro k9
                induction k9 with
                | zero => intro R3 τ3 r hR3 hr hvτ3 hcFR_τ3 hcCR_τ3 hm9; exact absurd hm9 (Nat.not_lt_zero _)
                | succ k9 ih142 =>
                  intro R3 τ3 r hR3 hr hvτ3 hcFR_τ3 hcCR_τ3 hm142
                  have hb3 : Rb R3 := by rw [hR3]; exact rts_rb hI hi r (by omega)
                  have h13 : R1 R3 := by rw [hR3]; exact (rts_lv hI hi r).r1
                  refine g_iload h dX8_find_142 4 rfl ?_
                  refine g_bipush h dX8_find_144 (by decide) ?_
                  refine g_icmpN_ge h dX8_find_146 (by omega) (by omega) (fun c146 => ?_) (fun c146 => ?_)
                  ·
                    exact g_vret h hQ dX8_find_203 rfl (by exact ⟨(by rw [← show r = 6 from by omega, ← hR3]; exact hcCR_τ3), (by exact hcFR_τ3)⟩)
                  ·
                    refine g_iconst h dX8_find_149 (by decide) ?_
                    refine g_istore (L' := [(0, .ref (w.1 20)), (1, .ref (w.1 (mc m 0))), (2, .int (nI i)), (3, .int (μ (64 + i))), (4, .int (nI (r + 2))), (5, .int (nI 0))]) h dX8_find_150 rfl (by decide) rfl ?_
                    have lp152 : ∀ (k9 : Nat) (k3 : Nat) (R4 : RT) (τ4 : Mem), (R4 = fK μ i (r + 1) R3 k3) → (k3 ≤ nN μ) → (vw (vb m) τ4 = μ) → (∀ a, ((a < 15200 + 8 * i ∨ 15208 + 8 * i ≤ a) ∧ (a < 15264 + 8 * i ∨ 15272 + 8 * i ≤ a)) → τ4 a = σ a) → (CR τ4 i R4 (nN μ)) → nN μ - k3 < k9 → G X w 7 152 [(0, .ref (w.1 20)), (1, .ref (w.1 (mc m 0))), (2, .int (nI i)), (3, .int (μ (64 + i))), (4, .int (nI (r + 2))), (5, .int (nI k3))] [] (τ4) := by
                      intro k9
                      induction k9 with
                      | zero => intro k3 R4 τ4 hR4 hk3 hvτ4 hcFR_τ4 hcCR_τ4 hm9; exact absurd hm9 (Nat.not_lt_zero _)
                      | succ k9 ih152 =>
                        intro k3 R4 τ4 hR4 hk3 hvτ4 hcFR_τ4 hcCR_τ4 hm152
                        have hb4 : Rb R4 := by rw [hR4]; exact fK_rb (by omega) hb3
                        have b4x := hb4 k3
                        refine g_iload h dX8_find_152 5 rfl ?_
                        refine g_aload_n h dX8_find_154 1 rfl ?_
                        refine g_geti h dX8_find_155 gX8_18 (sM_0 (m := m) (by omega)) rfl ?_
                        refine g_top (y := μ 0) (vw_pic (b := (vb m)) (k := 0) (by first | exact hvτ4 | assumption) (by omega)) ?_
                        refine g_top (y := nI (nN μ)) (mi_0 (by assumption)) ?_
                        refine g_icmpN_ge h dX8_find_158 (by omega) (by omega) (fun c158 => ?_) (fun c158 => ?_)
                        ·
                          refine g_iincN (b := 1) (L' := [(0, .ref (w.1 20)), (1, .ref (w.1 (mc m 0))), (2, .int (nI i)), (3, .int (μ (64 + i))), (4, .int (nI (r + 2 + 1))), (5, .int (nI k3))]) h dX8_find_197 4 rfl rfl (by decide) (by decide) rfl ?_
                          refine g_goto h dX8_find_200 ?_
                          exact g_sub [0, 1, 2, 3, 4] rfl (ih142 R4 (τ4) (r + 1) (by rw [hR4, show k3 = nN μ from by omega, fK_end, hR3]; rfl) (by omega) (by first | exact hvτ4 | assumption | fail | fail) (by first | exact hcFR_τ4 | assumption | fail | fail) (by first | exact hcCR_τ4 | assumption | fail | fail) (by omega))
                        ·
                          refine g_iload h dX8_find_161 5 rfl ?_
                          refine g_iload_n h dX8_find_163 2 rfl ?_
                          refine g_icmpN_eq h dX8_find_164 (by omega) (by omega) (fun c164 => ?_) (fun c164 => ?_)
                          ·
                            refine g_iincN (b := 1) (L' := [(0, .ref (w.1 20)), (1, .ref (w.1 (mc m 0))), (2, .int (nI i)), (3, .int (μ (64 + i))), (4, .int (nI (r + 2))), (5, .int (nI (k3 + 1)))]) h dX8_find_191 5 rfl rfl (by decide) (by decide) rfl ?_
                            refine g_goto h dX8_find_194 ?_
                            exact ih152 (k3 + 1) R4 (τ4) (by first | (rw [hR4]; exact fK_n (Or.inl c164)) | (rw [hR4]; exact fK_n (Or.inr (by rw [← hR4]; omega))) | (rw [hR4]; exact fK_y h13 (by omega) (by omega) (by omega) (by rw [← hR4]; omega)) | fail | fail) (by omega) (by first | exact hvτ4 | assumption | fail | fail) (by first | exact hcFR_τ4 | assumption | fail | fail) (by first | exact hcCR_τ4 | assumption | fail | fail) (by omega)
                          ·
                            refine g_aload_n h dX8_find_167 0 rfl ?_
                            refine g_getr h dX8_find_168 gX8_9 sc_20 rfl ?_
                            refine g_iload_n h dX8_find_171 2 rfl ?_
                            refine g_iload h dX8_find_172 5 rfl ?_
                            refine g_cspi (rest := [.ref (w.1 21)]) h (c_at hW i k3 ) lX5_at mX8_37 (Nat.lt_of_lt_of_le (by decide) (Nat.le_refl _)) (by decide) rfl rfl rfl dX8_find_174 ?_
                            refine g_iald h dX8_find_177 sc_21 (by omega) ?_
                            refine g_top (y := (nI (rs R4 k3))) ((hcCR_τ4 k3 (by omega)).1) ?_
                            refine g_ifN_ne h dX8_find_178 (by omega) (fun c178 => ?_) (fun c178 => ?_)
                            ·
                              refine g_iincN (b := 1) (L' := [(0, .ref (w.1 20)), (1, .ref (w.1 (mc m 0))), (2, .int (nI i)), (3, .int (μ (64 + i))), (4, .int (nI (r + 2))), (5, .int (nI (k3 + 1)))]) h dX8_find_191 5 rfl rfl (by decide) (by decide) rfl ?_
                              refine g_goto h dX8_find_194 ?_
                              exact ih152 (k3 + 1) R4 (τ4) (by first | (rw [hR4]; exact fK_n (Or.inl c164)) | (rw [hR4]; exact fK_n (Or.inr (by rw [← hR4]; omega))) | (rw [hR4]; exact fK_y h13 (by omega) (by omega) (by omega) (by rw [← hR4]; omega)) | fail | fail) (by omega) (by first | exact hvτ4 | assumption | fail | fail) (by first | exact hcFR_τ4 | assumption | fail | fail) (by first | exact hcCR_τ4 | assumption | fail | fail) (by omega)
                            ·
                              refine g_aload_n h dX8_find_181 0 rfl ?_
                              refine g_aload_n h dX8_find_182 1 rfl ?_
                              refine g_iload_n h dX8_find_183 2 rfl ?_
                              refine g_iload h dX8_find_184 5 rfl ?_
                              refine g_iload h dX8_find_186 4 rfl ?_
                              refine g_cvv (rest := []) h (c_reachFurther hW i k3 (r + 1) R4 m μ (by first | omega | decide | fail) (by first | exact hvτ4 | assumption | fail) (by assumption) (by omega) (by omega) (by omega) (by exact hb4) (by first | exact hcCR_τ4 | assumption | fail)) lX8_reachFurther mX8_49 (Nat.lt_of_lt_of_le (by decide) (Nat.le_refl _)) (by decide) sc_20 rfl rfl rfl rfl dX8_find_188 (fun σ_1 eσ_1 => ?_)
                              obtain ⟨eσ_1_a, eσ_1_b⟩ := eσ_1
                              have eσ_1_a : CR σ_1 i (fur R4 k3 (mnx (gB μ i R4 (r + 1) k3) (rx R4) (nN μ)) (r + 1)) (nN μ) := eσ_1_a
                              have eσ_1_b : ∀ a, ((a < 15200 + 8 * i ∨ 15208 + 8 * i ≤ a) ∧ (a < 15264 + 8 * i ∨ 15272 + 8 * i ≤ a)) → σ_1 a = (τ4) a := eσ_1_b
                              have hcFR_σ_1 : ∀ a, ((a < 15200 + 8 * i ∨ 15208 + 8 * i ≤ a) ∧ (a < 15264 + 8 * i ∨ 15272 + 8 * i ≤ a)) → σ_1 a = σ a := by intro a ha; exact Eq.trans (b := (τ4) a) (eσ_1_b a (by first | omega | (simp only [vb] at *; omega))) (hcFR_τ4 a ha)
                              have hcCR_σ_1 : CR σ_1 i (fur R4 k3 (mnx (gB μ i R4 (r + 1) k3) (rx R4) (nN μ)) (r + 1)) (nN μ) := eσ_1_a
                              have hvσ_1 : vw (vb m) σ_1 = μ := by rw [vw_fr (σ := (τ4)) (fun j _ _ => eσ_1_b _ (by first | omega | (simp only [vb] at *; omega)))]; first | exact hvτ4 | assumption
                              refine g_iincN (b := 1) (L' := [(0, .ref (w.1 20)), (1, .ref (w.1 (mc m 0))), (2, .int (nI i)), (3, .int (μ (64 + i))), (4, .int (nI (r + 2))), (5, .int (nI (k3 + 1)))]) h dX8_find_191 5 rfl rfl (by decide) (by decide) rfl ?_
                              refine g_goto h dX8_find_194 ?_
                              exact ih152 (k3 + 1) (fur R4 k3 (mnx (gB μ i R4 (r + 1) k3) (rx R4) (nN μ)) (r + 1)) σ_1 (by first | (rw [hR4]; exact fK_n (Or.inl c164)) | (rw [hR4]; exact fK_n (Or.inr (by rw [← hR4]; omega))) | (rw [hR4]; exact fK_y h13 (by omega) (by omega) (by omega) (by rw [← hR4]; omega)) | fail | fail) (by omega) (by first | exact hvσ_1 | assumption | fail | fail) (by first | exact hcFR_σ_1 | assumption | fail | fail) (by first | exact hcCR_σ_1 | assumption | fail | fail) (by omega)
                    exact lp152 (_) 0 R3 (τ3) (by exact fK_0) (by omega) (by first | exact hvτ3 | assumption | fail | fail) (by first | exact hcFR_τ3 | assumption | fail | fail) (by first | exact hcCR_τ3 | assumption | fail | fail) (Nat.lt_succ_self _)
              exact lp142 (_) R2 (τ2) 0 (by rw [hR2, show k2 = nN μ from by omega]; exact bK_end hI hi) (by omega) (by first | exact hvτ2 | assumption | fail | fail) (by first | exact hcFR_τ2 | assumption | fail | fail) (by first | exact hcCR_τ2 | assumption | fail | fail) (Nat.lt_succ_self _)
            ·
              refine g_iload h dX8_find_105 4 rfl ?_
              refine g_iload_n h dX8_find_107 2 rfl ?_
              refine g_icmpN_eq h dX8_find_108 (by omega) (by omega) (fun c108 => ?_) (fun c108 => ?_)
              ·
                refine g_iincN (b := 1) (L' := [(0, .ref (w.1 20)), (1, .ref (w.1 (mc m 0))), (2, .int (nI i)), (3, .int (μ (64 + i))), (4, .int (nI (k2 + 1)))]) h dX8_find_133 4 rfl rfl (by decide) (by decide) rfl ?_
                refine g_goto h dX8_find_136 ?_
                exact ih96 (k2 + 1) R2 (τ2) (by first | (rw [hR2]; exact bK_n hI hi (Or.inl c108)) | (rw [hR2]; exact bK_n hI hi (Or.inr (by rw [← hR2]; omega))) | (rw [hR2]; exact bK_y (by omega) (by omega) (by rw [← hR2]; omega)) | fail | fail) (by omega) (by first | exact hvτ2 | assumption | fail | fail) (by first | exact hcFR_τ2 | assumption | fail | fail) (by first | exact hcCR_τ2 | assumption | fail | fail) (by omega)
              ·
                refine g_aload_n h dX8_find_111 0 rfl ?_
                refine g_getr h dX8_find_112 gX8_9 sc_20 rfl ?_
                refine g_iload_n h dX8_find_115 2 rfl ?_
                refine g_iload h dX8_find_116 4 rfl ?_
                refine g_cspi (rest := [.ref (w.1 21)]) h (c_at hW i k2 ) lX5_at mX8_37 (Nat.lt_of_lt_of_le (by decide) (Nat.le_refl _)) (by decide) rfl rfl rfl dX8_find_118 ?_
                refine g_iald h dX8_find_121 sc_21 (by omega) ?_
                refine g_top (y := (nI (rs R2 k2))) ((hcCR_τ2 k2 (by omega)).1) ?_
                refine g_ifN_ne h dX8_find_122 (by omega) (fun c122 => ?_) (fun c122 => ?_)
                ·
                  refine g_iincN (b := 1) (L' := [(0, .ref (w.1 20)), (1, .ref (w.1 (mc m 0))), (2, .int (nI i)), (3, .int (μ (64 + i))), (4, .int (nI (k2 + 1)))]) h dX8_find_133 4 rfl rfl (by decide) (by decide) rfl ?_
                  refine g_goto h dX8_find_136 ?_
                  exact ih96 (k2 + 1) R2 (τ2) (by first | (rw [hR2]; exact bK_n hI hi (Or.inl c108)) | (rw [hR2]; exact bK_n hI hi (Or.inr (by rw [← hR2]; omega))) | (rw [hR2]; exact bK_y (by omega) (by omega) (by rw [← hR2]; omega)) | fail | fail) (by omega) (by first | exact hvτ2 | assumption | fail | fail) (by first | exact hcFR_τ2 | assumption | fail | fail) (by first | exact hcCR_τ2 | assumption | fail | fail) (by omega)
                ·
                  refine g_aload_n h dX8_find_125 0 rfl ?_
                  refine g_aload_n h dX8_find_126 1 rfl ?_
                  refine g_iload_n h dX8_find_127 2 rfl ?_
                  refine g_iload h dX8_find_128 4 rfl ?_
                  refine g_cvv (rest := []) h (c_reachBehind hW i k2 R2 m μ (by first | omega | decide | fail) (by first | exact hvτ2 | assumption | fail) (by assumption) (by omega) (by omega) (by rw [hR2]; exact (bK_r1 hI hi).none (by rw [← hR2]; omega)) (by first | exact hcCR_τ2 | assumption | fail)) lX8_reachBehind mX8_45 (Nat.lt_of_lt_of_le (by decide) (Nat.le_refl _)) (by decide) sc_20 rfl rfl rfl rfl dX8_find_130 (fun σ_2 eσ_2 => ?_)
                  obtain ⟨eσ_2_a, eσ_2_b⟩ := eσ_2
                  have eσ_2_a : CR σ_2 i (oset R2 k2 (fs (knB μ i k2) (nN μ)) 2) (nN μ) := eσ_2_a
                  have eσ_2_b : ∀ a, ((a < 15200 + 8 * i ∨ 15208 + 8 * i ≤ a) ∧ (a < 15264 + 8 * i ∨ 15272 + 8 * i ≤ a)) → σ_2 a = (τ2) a := eσ_2_b
                  have hcFR_σ_2 : ∀ a, ((a < 15200 + 8 * i ∨ 15208 + 8 * i ≤ a) ∧ (a < 15264 + 8 * i ∨ 15272 + 8 * i ≤ a)) → σ_2 a = σ a := by intro a ha; exact Eq.trans (b := (τ2) a) (eσ_2_b a (by first | omega | (simp only [vb] at *; omega))) (hcFR_τ2 a ha)
                  have hcCR_σ_2 : CR σ_2 i (oset R2 k2 (fs (knB μ i k2) (nN μ)) 2) (nN μ) := eσ_2_a
                  have hvσ_2 : vw (vb m) σ_2 = μ := by rw [vw_fr (σ := (τ2)) (fun j _ _ => eσ_2_b _ (by first | omega | (simp only [vb] at *; omega)))]; first | exact hvτ2 | assumption
                  refine g_iincN (b := 1) (L' := [(0, .ref (w.1 20)), (1, .ref (w.1 (mc m 0))), (2, .int (nI i)), (3, .int (μ (64 + i))), (4, .int (nI (k2 + 1)))]) h dX8_find_133 4 rfl rfl (by decide) (by decide) rfl ?_
                  refine g_goto h dX8_find_136 ?_
                  exact ih96 (k2 + 1) (oset R2 k2 (fs (knB μ i k2) (nN μ)) 2) σ_2 (by first | (rw [hR2]; exact bK_n hI hi (Or.inl c108)) | (rw [hR2]; exact bK_n hI hi (Or.inr (by rw [← hR2]; omega))) | (rw [hR2]; exact bK_y (by omega) (by omega) (by rw [← hR2]; omega)) | fail | fail) (by omega) (by first | exact hvσ_2 | assumption | fail | fail) (by first | exact hcFR_σ_2 | assumption | fail | fail) (by first | exact hcCR_σ_2 | assumption | fail | fail) (by omega)
        exact lp96 (_) 0 (r0 μ i) (τ1) (by exact bK_0.symm) (by omega) (by first | exact hvτ1 | assumption | fail | fail) (by first | exact hcFR_τ1 | assumption | fail | fail) (by first | exact hcCR_τ1 | assumption | fail | fail) (Nat.lt_succ_self _)
      ·
        refine g_iload_n h dX8_find_22 2 rfl ?_
        refine g_iload h dX8_find_23 4 rfl ?_
        refine g_cspi (rest := []) h (c_at hW i k ) lX5_at mX8_37 (Nat.lt_of_lt_of_le (by decide) (Nat.le_refl _)) (by decide) rfl rfl rfl dX8_find_25 ?_
        refine g_istore (L' := [(0, .ref (w.1 20)), (1, .ref (w.1 (mc m 0))), (2, .int (nI i)), (3, .int (μ (64 + i))), (4, .int (nI k)), (5, .int (nI (8 * i + k)))]) h dX8_find_28 rfl (by decide) rfl ?_
        refine g_iload h dX8_find_30 4 rfl ?_
        refine g_iload_n h dX8_find_32 2 rfl ?_
        refine g_icmpN_eq h dX8_find_33 (by omega) (by omega) (fun c33 => ?_) (fun c33 => ?_)
        ·
          refine g_iconst h dX8_find_49 (by decide) ?_
          refine g_istore (L' := [(0, .ref (w.1 20)), (1, .ref (w.1 (mc m 0))), (2, .int (nI i)), (3, .int (μ (64 + i))), (4, .int (nI k)), (5, .int (nI (8 * i + k))), (6, .int (nI 0))]) h dX8_find_50 rfl (by decide) rfl ?_
          refine g_aload_n h dX8_find_52 0 rfl ?_
          refine g_getr h dX8_find_53 gX8_9 sc_20 rfl ?_
          refine g_iload h dX8_find_56 5 rfl ?_
          refine g_iload h dX8_find_58 6 rfl ?_
          refine g_ifN_eq h dX8_find_60 (by decide) (fun c60 => ?_) (fun c60 => absurd c60 (by decide))
          refine g_iconst h dX8_find_67 (by decide) ?_
          refine g_iast h dX8_find_68 sc_21 (by omega) ?_
          refine g_nm (fun σa eσa => ?_)
          have eσa : σa = upd (τ1) (15200 + (8 * i + k)) (nI 0) := eσa
          have hcFR_σa : ∀ a, ((a < 15200 + 8 * i ∨ 15208 + 8 * i ≤ a) ∧ (a < 15264 + 8 * i ∨ 15272 + 8 * i ≤ a)) → σa a = σ a := by intro a ha; exact Eq.trans (b := (τ1) a) (by rw [eσa, upd_ne (by first | omega | (simp only [vb] at *; omega))]) (hcFR_τ1 a ha)
          have hvσa : vw (vb m) σa = μ := by rw [eσa, vw_out (by first | omega | (simp only [vb] at *; omega))]; first | exact hvτ1 | assumption
          refine g_aload_n h dX8_find_69 0 rfl ?_
          refine g_getr h dX8_find_70 gX8_15 sc_20 rfl ?_
          refine g_iload h dX8_find_73 5 rfl ?_
          refine g_iload h dX8_find_75 6 rfl ?_
          refine g_ifN_eq h dX8_find_77 (by decide) (fun c77 => ?_) (fun c77 => absurd c77 (by decide))
          refine g_iconstv h dX8_find_85 (v := (-1)) (by decide) ?_
          refine g_iast h dX8_find_86 sc_22 (by omega) ?_
          refine g_nm (fun σb eσb => ?_)
          have eσb : σb = upd σa (15264 + (8 * i + k)) (-1) := eσb
          have hcFR_σb : ∀ a, ((a < 15200 + 8 * i ∨ 15208 + 8 * i ≤ a) ∧ (a < 15264 + 8 * i ∨ 15272 + 8 * i ≤ a)) → σb a = σ a := by intro a ha; exact Eq.trans (b := σa a) (by rw [eσb, upd_ne (by first | omega | (simp only [vb] at *; omega))]) (hcFR_σa a ha)
          have hvσb : vw (vb m) σb = μ := by rw [eσb, vw_out (by first | omega | (simp only [vb] at *; omega))]; first | exact hvσa | assumption
          refine g_iincN (b := 1) (L' := [(0, .ref (w.1 20)), (1, .ref (w.1 (mc m 0))), (2, .int (nI i)), (3, .int (μ (64 + i))), (4, .int (nI (k + 1))), (5, .int (nI (8 * i + k))), (6, .int (nI 0))]) h dX8_find_87 4 rfl rfl (by decide) (by decide) rfl ?_
          refine g_goto h dX8_find_90 ?_
          exact g_sub [0, 1, 2, 3, 4] rfl (ih13 (k + 1) σb (by omega) (by first | exact CZ.more hz hi (by omega) eσa eσb (r0_t c42).1 (r0_t c42).2 | exact CZ.more hz hi (by omega) eσa eσb (r0_f c42).1 (r0_f c42).2 | exact CZ.more hz hi (by omega) eσa eσb (r0_f (by rw [c33]; exact (mi_self hI hi).2)).1 (r0_f (by rw [c33]; exact (mi_self hI hi).2)).2 | fail | fail) (by first | exact hvσb | assumption | fail | fail) (by first | exact hcFR_σb | assumption | fail | fail) (by omega))
        ·
          refine g_iload_n h dX8_find_36 3 rfl ?_
          refine g_iload h dX8_find_37 4 rfl ?_
          refine g_cspi (rest := []) h (c_has hW (μ (64 + i)) k (by omega)) lX5_has mX8_41 (Nat.lt_of_lt_of_le (by decide) (Nat.le_refl _)) (by decide) rfl rfl rfl dX8_find_39 ?_
          refine g_ifB_eq h dX8_find_42 (fun c42 => ?_) (fun c42 => ?_)
          ·
            refine g_iconst h dX8_find_49 (by decide) ?_
            refine g_istore (L' := [(0, .ref (w.1 20)), (1, .ref (w.1 (mc m 0))), (2, .int (nI i)), (3, .int (μ (64 + i))), (4, .int (nI k)), (5, .int (nI (8 * i + k))), (6, .int (nI 0))]) h dX8_find_50 rfl (by decide) rfl ?_
            refine g_aload_n h dX8_find_52 0 rfl ?_
            refine g_getr h dX8_find_53 gX8_9 sc_20 rfl ?_
            refine g_iload h dX8_find_56 5 rfl ?_
            refine g_iload h dX8_find_58 6 rfl ?_
            refine g_ifN_eq h dX8_find_60 (by decide) (fun c60 => ?_) (fun c60 => absurd c60 (by decide))
            refine g_iconst h dX8_find_67 (by decide) ?_
            refine g_iast h dX8_find_68 sc_21 (by omega) ?_
            refine g_nm (fun σa eσa => ?_)
            have eσa : σa = upd (τ1) (15200 + (8 * i + k)) (nI 0) := eσa
            have hcFR_σa : ∀ a, ((a < 15200 + 8 * i ∨ 15208 + 8 * i ≤ a) ∧ (a < 15264 + 8 * i ∨ 15272 + 8 * i ≤ a)) → σa a = σ a := by intro a ha; exact Eq.trans (b := (τ1) a) (by rw [eσa, upd_ne (by first | omega | (simp only [vb] at *; omega))]) (hcFR_τ1 a ha)
            have hvσa : vw (vb m) σa = μ := by rw [eσa, vw_out (by first | omega | (simp only [vb] at *; omega))]; first | exact hvτ1 | assumption
            refine g_aload_n h dX8_find_69 0 rfl ?_
            refine g_getr h dX8_find_70 gX8_15 sc_20 rfl ?_
            refine g_iload h dX8_find_73 5 rfl ?_
            refine g_iload h dX8_find_75 6 rfl ?_
            refine g_ifN_eq h dX8_find_77 (by decide) (fun c77 => ?_) (fun c77 => absurd c77 (by decide))
            refine g_iconstv h dX8_find_85 (v := (-1)) (by decide) ?_
            refine g_iast h dX8_find_86 sc_22 (by omega) ?_
            refine g_nm (fun σb eσb => ?_)
            have eσb : σb = upd σa (15264 + (8 * i + k)) (-1) := eσb
            have hcFR_σb : ∀ a, ((a < 15200 + 8 * i ∨ 15208 + 8 * i ≤ a) ∧ (a < 15264 + 8 * i ∨ 15272 + 8 * i ≤ a)) → σb a = σ a := by intro a ha; exact Eq.trans (b := σa a) (by rw [eσb, upd_ne (by first | omega | (simp only [vb] at *; omega))]) (hcFR_σa a ha)
            have hvσb : vw (vb m) σb = μ := by rw [eσb, vw_out (by first | omega | (simp only [vb] at *; omega))]; first | exact hvσa | assumption
            refine g_iincN (b := 1) (L' := [(0, .ref (w.1 20)), (1, .ref (w.1 (mc m 0))), (2, .int (nI i)), (3, .int (μ (64 + i))), (4, .int (nI (k + 1))), (5, .int (nI (8 * i + k))), (6, .int (nI 0))]) h dX8_find_87 4 rfl rfl (by decide) (by decide) rfl ?_
            refine g_goto h dX8_find_90 ?_
            exact g_sub [0, 1, 2, 3, 4] rfl (ih13 (k + 1) σb (by omega) (by first | exact CZ.more hz hi (by omega) eσa eσb (r0_t c42).1 (r0_t c42).2 | exact CZ.more hz hi (by omega) eσa eσb (r0_f c42).1 (r0_f c42).2 | exact CZ.more hz hi (by omega) eσa eσb (r0_f (by rw [c33]; exact (mi_self hI hi).2)).1 (r0_f (by rw [c33]; exact (mi_self hI hi).2)).2 | fail | fail) (by first | exact hvσb | assumption | fail | fail) (by first | exact hcFR_σb | assumption | fail | fail) (by omega))
          ·
            refine g_iconst h dX8_find_45 (by decide) ?_
            refine g_goto h dX8_find_46 ?_
            refine g_istore (L' := [(0, .ref (w.1 20)), (1, .ref (w.1 (mc m 0))), (2, .int (nI i)), (3, .int (μ (64 + i))), (4, .int (nI k)), (5, .int (nI (8 * i + k))), (6, .int (nI 1))]) h dX8_find_50 rfl (by decide) rfl ?_
            refine g_aload_n h dX8_find_52 0 rfl ?_
            refine g_getr h dX8_find_53 gX8_9 sc_20 rfl ?_
            refine g_iload h dX8_find_56 5 rfl ?_
            refine g_iload h dX8_find_58 6 rfl ?_
            refine g_ifN_eq h dX8_find_60 (by decide) (fun c60 => absurd c60 (by decide)) (fun c60 => ?_)
            refine g_iconst h dX8_find_63 (by decide) ?_
            refine g_goto h dX8_find_64 ?_
            refine g_iast h dX8_find_68 sc_21 (by omega) ?_
            refine g_nm (fun σa eσa => ?_)
            have eσa : σa = upd (τ1) (15200 + (8 * i + k)) (nI 1) := eσa
            have hcFR_σa : ∀ a, ((a < 15200 + 8 * i ∨ 15208 + 8 * i ≤ a) ∧ (a < 15264 + 8 * i ∨ 15272 + 8 * i ≤ a)) → σa a = σ a := by intro a ha; exact Eq.trans (b := (τ1) a) (by rw [eσa, upd_ne (by first | omega | (simp only [vb] at *; omega))]) (hcFR_τ1 a ha)
            have hvσa : vw (vb m) σa = μ := by rw [eσa, vw_out (by first | omega | (simp only [vb] at *; omega))]; first | exact hvτ1 | assumption
            refine g_aload_n h dX8_find_69 0 rfl ?_
            refine g_getr h dX8_find_70 gX8_15 sc_20 rfl ?_
            refine g_iload h dX8_find_73 5 rfl ?_
            refine g_iload h dX8_find_75 6 rfl ?_
            refine g_ifN_eq h dX8_find_77 (by decide) (fun c77 => absurd c77 (by decide)) (fun c77 => ?_)
            refine g_iload h dX8_find_80 4 rfl ?_
            refine g_goto h dX8_find_82 ?_
            refine g_iast h dX8_find_86 sc_22 (by omega) ?_
            refine g_nm (fun σb eσb => ?_)
            have eσb : σb = upd σa (15264 + (8 * i + k)) (nI k) := eσb
            have hcFR_σb : ∀ a, ((a < 15200 + 8 * i ∨ 15208 + 8 * i ≤ a) ∧ (a < 15264 + 8 * i ∨ 15272 + 8 * i ≤ a)) → σb a = σ a := by intro a ha; exact Eq.trans (b := σa a) (by rw [eσb, upd_ne (by first | omega | (simp only [vb] at *; omega))]) (hcFR_σa a ha)
            have hvσb : vw (vb m) σb = μ := by rw [eσb, vw_out (by first | omega | (simp only [vb] at *; omega))]; first | exact hvσa | assumption
            refine g_iincN (b := 1) (L' := [(0, .ref (w.1 20)), (1, .ref (w.1 (mc m 0))), (2, .int (nI i)), (3, .int (μ (64 + i))), (4, .int (nI (k + 1))), (5, .int (nI (8 * i + k))), (6, .int (nI 1))]) h dX8_find_87 4 rfl rfl (by decide) (by decide) rfl ?_
            refine g_goto h dX8_find_90 ?_
            exact g_sub [0, 1, 2, 3, 4] rfl (ih13 (k + 1) σb (by omega) (by first | exact CZ.more hz hi (by omega) eσa eσb (r0_t c42).1 (r0_t c42).2 | exact CZ.more hz hi (by omega) eσa eσb (r0_f c42).1 (r0_f c42).2 | exact CZ.more hz hi (by omega) eσa eσb (r0_f (by rw [c33]; exact (mi_self hI hi).2)).1 (r0_f (by rw [c33]; exact (mi_self hI hi).2)).2 | fail | fail) (by first | exact hvσb | assumption | fail | fail) (by first | exact hcFR_σb | assumption | fail | fail) (by omega))
  exact lp13 (_) 0 σ (by omega) (by intro y hy; omega) (by first | exact hv | assumption | fail | fail) (by first | exact hcFR_σ | assumption | fail | fail) (Nat.lt_succ_self _)

set_option maxRecDepth 100000 in
set_option maxHeartbeats 4000000 in
theorem c_findAll {l : Launch} {w : Wd} (hW : Wi w) {σ : Mem} (m : Nat) (μ : Nat → Int32) (hm : m < 6) (hv : vw (vb m) σ = μ) (hI : MI μ) : MC l w qX8_findAll 3 [.ref (w.1 20), .ref (w.1 (mc m 0))] σ none (fun σ' => (CA σ' μ) ∧ (∀ a, (a < 15200 ∨ 15328 ≤ a) → σ' a = σ a)) := by
  refine MC.of hW (by decide +kernel) (Nat.le_of_ble_eq_true rfl) (fun X h hQ hnm => ?_)
  have h : Fx X w cX8_findAll 3 RX8 3 := h
  have hQ : Qx X w none none (fun σ' => (CA σ' μ) ∧ (∀ a, (a < 15200 ∨ 15328 ≤ a) → σ' a = σ a)) := hQ
  have hN8 := mi_8 hI
  have hcFR_σ : ∀ a, (a < 15200 ∨ 15328 ≤ a) → σ a = σ a := fun _ _ => rfl
  show G X w 3 0 [(0, .ref (w.1 20)), (1, .ref (w.1 (mc m 0)))] [] σ
  refine g_iconst h dX8_findAll_0 (by decide) ?_
  refine g_istore_n (L' := [(0, .ref (w.1 20)), (1, .ref (w.1 (mc m 0))), (2, .int (nI 0))]) h dX8_findAll_1 rfl (by decide) rfl ?_
  have lp2 : ∀ (k9 : Nat) (k : Nat) (τ1 : Mem), (k ≤ nN μ) → (∀ j, j < k → CR τ1 j (rts μ j 6) (nN μ)) → (vw (vb m) τ1 = μ) → (∀ a, (a < 15200 ∨ 15328 ≤ a) → τ1 a = σ a) → nN μ - k < k9 → G X w 3 2 [(0, .ref (w.1 20)), (1, .ref (w.1 (mc m 0))), (2, .int (nI k))] [] (τ1) := by
    intro k9
    induction k9 with
    | zero => intro k τ1 hk hA hvτ1 hcFR_τ1 hm9; exact absurd hm9 (Nat.not_lt_zero _)
    | succ k9 ih2 =>
      intro k τ1 hk hA hvτ1 hcFR_τ1 hm2
      refine g_iload_n h dX8_findAll_2 2 rfl ?_
      refine g_aload_n h dX8_findAll_3 1 rfl ?_
      refine g_geti h dX8_findAll_4 gX8_18 (sM_0 (m := m) (by omega)) rfl ?_
      refine g_top (y := μ 0) (vw_pic (b := (vb m)) (k := 0) (by first | exact hvτ1 | assumption) (by omega)) ?_
      refine g_top (y := nI (nN μ)) (mi_0 (by assumption)) ?_
      refine g_icmpN_ge h dX8_findAll_7 (by omega) (by omega) (fun c7 => ?_) (fun c7 => ?_)
      ·
        exact g_vret h hQ dX8_findAll_22 rfl (by exact ⟨(by exact fun j hj => hA j (by omega)), (by exact hcFR_τ1)⟩)
      ·
        refine g_aload_n h dX8_findAll_10 0 rfl ?_
        refine g_aload_n h dX8_findAll_11 1 rfl ?_
        refine g_iload_n h dX8_findAll_12 2 rfl ?_
        refine g_cvv (rest := []) h (c_find hW k m μ (by first | omega | decide | fail) (by first | exact hvτ1 | assumption | fail) (by assumption) (by omega)) lX8_find mX8_24 (Nat.lt_of_lt_of_le (by decide) (Nat.le_refl _)) (by decide) sc_20 rfl rfl rfl rfl dX8_findAll_13 (fun σa eσa => ?_)
        obtain ⟨eσa_a, eσa_b⟩ := eσa
        have eσa_a : CR σa k (rts μ k 6) (nN μ) := eσa_a
        have eσa_b : ∀ a, ((a < 15200 + 8 * k ∨ 15208 + 8 * k ≤ a) ∧ (a < 15264 + 8 * k ∨ 15272 + 8 * k ≤ a)) → σa a = (τ1) a := eσa_b
        have hcFR_σa : ∀ a, (a < 15200 ∨ 15328 ≤ a) → σa a = σ a := by intro a ha; exact Eq.trans (b := (τ1) a) (eσa_b a (by first | omega | (simp only [vb] at *; omega))) (hcFR_τ1 a ha)
        have hcCR_σa : CR σa k (rts μ k 6) (nN μ) := eσa_a
        have hvσa : vw (vb m) σa = μ := by rw [vw_fr (σ := (τ1)) (fun j _ _ => eσa_b _ (by first | omega | (simp only [vb] at *; omega)))]; first | exact hvτ1 | assumption
        refine g_iincN (b := 1) (L' := [(0, .ref (w.1 20)), (1, .ref (w.1 (mc m 0))), (2, .int (nI (k + 1)))]) h dX8_findAll_16 2 rfl rfl (by decide) (by decide) rfl ?_
        refine g_goto h dX8_findAll_19 ?_
        exact ih2 (k + 1) σa (by omega) (by intro j hj; exact if e9 : j = k then (by rw [e9]; exact eσa_a) else (hA j (by omega)).fr (fun a h1 h2 => eσa_b a (by omega))) (by first | exact hvσa | assumption | fail | fail) (by first | exact hcFR_σa | assumption | fail | fail) (by omega)
  exact lp2 (_) 0 σ (by omega) (by intro j hj; omega) (by first | exact hv | assumption | fail | fail) (by first | exact hcFR_σ | assumption | fail | fail) (Nat.lt_succ_self _)
