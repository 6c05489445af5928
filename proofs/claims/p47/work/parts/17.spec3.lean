/-! routes, in words -/
abbrev RT : Type := Nat → Option (Nat × Nat)
def rs (R : RT) (y : Nat) : Nat := match R y with
  | none => 0
  | some p => p.1
def rx (R : RT) (y : Nat) : Nat := match R y with
  | none => 0
  | some p => p.2
def rn (R : RT) (y : Nat) : Int32 := match R y with
  | none => -1
  | some p => nI p.2
def rset (R : RT) (y : Nat) (v : Nat × Nat) : RT := fun q => if q = y then some v else R q
def r0 (μ : Nat → Int32) (i : Nat) : RT := fun y => if tb (μ (64 + i)) y = true then some (1, y) else none
def k1 (μ : Nat → Int32) (i j y : Nat) (R : RT) : RT := if (tb (μ (64 + i)) j && tb (μ (144 + (8 * i + j))) y && !decide (y = i) && decide (rs R y = 0)) = true then rset R y (2, j) else R
def h1 (μ : Nat → Int32) (i x r y : Nat) (R : RT) : RT :=
  if (!decide (y = i) && tb (μ (272 + (8 * i + x))) y) = true then
    (if rs R y = 0 then rset R y (r + 1, rx R x)
     else if (decide (rs R y = r + 1) && !(decide (r = 1) && tb (kno μ i (μ (64 + i))) y)) = true then rset R y (r + 1, min (rx R y) (rx R x)) else R)
  else R
/-- the first of whom p holds; the least of what those have -/
def fs (p : Nat → Bool) : Nat → Option Nat
  | 0 => none
  | n + 1 => match fs p n with
    | some v => some v
    | none => if p n = true then some n else none
def mo (o : Option Nat) (v : Nat) : Nat := match o with
  | none => v
  | some w => min w v
def mnx (p : Nat → Bool) (t : Nat → Nat) : Nat → Option Nat
  | 0 => none
  | n + 1 => if p n = true then some (mo (mnx p t n) (t n)) else mnx p t n
def knB (μ : Nat → Int32) (i y j : Nat) : Bool := tb (μ (64 + i)) j && tb (μ (144 + (8 * i + j))) y
def two2 (o : Option Nat) (r : Nat) : Option (Nat × Nat) := match o with
  | none => none
  | some v => some (r, v)
def rt1 (μ : Nat → Int32) (i : Nat) : RT := fun y => if tb (μ (64 + i)) y = true then some (1, y) else if y < nN μ ∧ y ≠ i then two2 (fs (knB μ i y) (nN μ)) 2 else none
def gB (μ : Nat → Int32) (i : Nat) (R : RT) (r y x : Nat) : Bool := decide (0 < nA μ (400 + (8 * i + x))) && tb (μ (272 + (8 * i + x))) y && decide (rs R x = r)
def rtR (μ : Nat → Int32) (i r : Nat) (R : RT) : RT := fun y => if y < nN μ ∧ y ≠ i ∧ rs R y = 0 then two2 (mnx (gB μ i R r y) (rx R) (nN μ)) (r + 1) else R y
def rts (μ : Nat → Int32) (i : Nat) : Nat → RT
  | 0 => rt1 μ i
  | r + 1 => rtR μ i (r + 1) (rts μ i r)
theorem rs_set {R : RT} {y q : Nat} {v : Nat × Nat} : rs (rset R y v) q = if q = y then v.1 else rs R q := by
  unfold rs rset
  by_cases e : q = y
  · rw [if_pos e, if_pos e]
  · rw [if_neg e, if_neg e]
theorem rx_set {R : RT} {y q : Nat} {v : Nat × Nat} : rx (rset R y v) q = if q = y then v.2 else rx R q := by
  unfold rx rset
  by_cases e : q = y
  · rw [if_pos e, if_pos e]
  · rw [if_neg e, if_neg e]
theorem rn_set {R : RT} {y q : Nat} {v : Nat × Nat} : rn (rset R y v) q = if q = y then nI v.2 else rn R q := by
  unfold rn rset
  by_cases e : q = y
  · rw [if_pos e, if_pos e]
  · rw [if_neg e, if_neg e]
theorem fs_lt {p : Nat → Bool} : ∀ {n v : Nat}, fs p n = some v → v < n ∧ p v = true
  | 0, v, h => by simp [fs] at h
  | n + 1, v, h => by
    simp only [fs] at h
    cases q : fs p n with
    | some w =>
      rw [q] at h
      cases h
      have := fs_lt q
      exact ⟨by omega, this.2⟩
    | none =>
      rw [q] at h
      dsimp only at h
      split at h
      · rename_i c
        cases h
        exact ⟨by omega, c⟩
      · cases h
/-! the reference's routes -/
def RR (σ : Mem) (R : RT) : Prop := ∀ y, y < 8 → σ (5150 + y) = nI (rs R y) ∧ σ (5160 + y) = rn R y
theorem RR.fr {R : RT} {σ σ' : Mem} (h : RR σ R) (f : ∀ a, 5150 ≤ a → a < 5168 → σ' a = σ a) : RR σ' R := fun y hy => by
  rw [f _ (by omega) (by omega), f _ (by omega) (by omega)]
  exact h y hy
theorem RR.set {R : RT} {σ σ1 σ2 : Mem} {y s t : Nat} (h : RR σ R) (hy : y < 8) (e1 : σ1 = upd σ (5150 + y) (nI s)) (e2 : σ2 = upd σ1 (5160 + y) (nI t)) : RR σ2 (rset R y (s, t)) := fun q hq => by
  rw [rs_set, rn_set]
  by_cases e : q = y
  · subst e
    rw [if_pos rfl, if_pos rfl]
    constructor
    · rw [e2, upd_ne (by omega), e1, upd_eq]
    · rw [e2, upd_eq]
  · rw [if_neg e, if_neg e]
    constructor
    · rw [e2, upd_ne (by omega), e1, upd_ne (by omega)]
      exact (h q hq).1
    · rw [e2, upd_ne (by omega), e1, upd_ne (by omega)]
      exact (h q hq).2
/-- what the reference's first loop has laid -/
def RZ (μ : Nat → Int32) (i k : Nat) (σ : Mem) : Prop := ∀ y, y < k → σ (5150 + y) = nI (rs (r0 μ i) y) ∧ σ (5160 + y) = rn (r0 μ i) y
theorem RZ.more {μ : Nat → Int32} {i k : Nat} {σ σ1 σ2 : Mem} {a b : Int32} (h : RZ μ i k σ) (hk : k < 8) (e1 : σ1 = upd σ (5150 + k) a) (e2 : σ2 = upd σ1 (5160 + k) b) (ha : a = nI (rs (r0 μ i) k)) (hb : b = rn (r0 μ i) k) : RZ μ i (k + 1) σ2 := fun y hy => by
  by_cases e : y = k
  · subst e
    constructor
    · rw [e2, upd_ne (by omega), e1, upd_eq, ha]
    · rw [e2, upd_eq, hb]
  · constructor
    · rw [e2, upd_ne (by omega), e1, upd_ne (by omega)]
      exact (h y (by omega)).1
    · rw [e2, upd_ne (by omega), e1, upd_ne (by omega)]
      exact (h y (by omega)).2
/-- routes have few steps and go by nodes that there are -/
def Rb (R : RT) : Prop := ∀ y, rs R y < 20 ∧ rx R y < 20
theorem Rb.set {R : RT} {y s t : Nat} (h : Rb R) (hs : s < 20) (ht : t < 20) : Rb (rset R y (s, t)) := fun q => by
  rw [rs_set, rx_set]
  split
  · exact ⟨hs, ht⟩
  · exact h q
/-! the class's routes -/
def CR (σ : Mem) (i : Nat) (R : RT) (n : Nat) : Prop := ∀ y, y < n → σ (15200 + (8 * i + y)) = nI (rs R y) ∧ σ (15264 + (8 * i + y)) = rn R y
theorem CR.fr {i n : Nat} {R : RT} {σ σ' : Mem} (h : CR σ i R n) (f : ∀ a, 15200 ≤ a → (a < 15200 + (8 * i + n) ∧ 15200 + 8 * i ≤ a) ∨ (a < 15264 + (8 * i + n) ∧ 15264 + 8 * i ≤ a) → σ' a = σ a) : CR σ' i R n := fun y hy => by
  rw [f _ (by omega) (by omega), f _ (by omega) (by omega)]
  exact h y hy
theorem CR.set {R : RT} {i n : Nat} {σ σ1 σ2 : Mem} {y s t : Nat} (h : CR σ i R n) (hi : i < 8) (hn : n ≤ 8) (hy : y < n) (e1 : σ1 = upd σ (15200 + (8 * i + y)) (nI s)) (e2 : σ2 = upd σ1 (15264 + (8 * i + y)) (nI t)) : CR σ2 i (rset R y (s, t)) n := fun q hq => by
  rw [rs_set, rn_set]
  by_cases e : q = y
  · subst e
    rw [if_pos rfl, if_pos rfl]
    constructor
    · rw [e2, upd_ne (by omega), e1, upd_eq]
    · rw [e2, upd_eq]
  · rw [if_neg e, if_neg e]
    constructor
    · rw [e2, upd_ne (by omega), e1, upd_ne (by omega)]
      exact (h q hq).1
    · rw [e2, upd_ne (by omega), e1, upd_ne (by omega)]
      exact (h q hq).2
def CZ (μ : Nat → Int32) (i k : Nat) (σ : Mem) : Prop := ∀ y, y < k → σ (15200 + (8 * i + y)) = nI (rs (r0 μ i) y) ∧ σ (15264 + (8 * i + y)) = rn (r0 μ i) y
theorem CZ.more {μ : Nat → Int32} {i k : Nat} {σ σ1 σ2 : Mem} {a b : Int32} (h : CZ μ i k σ) (hi : i < 8) (hk : k < 8) (e1 : σ1 = upd σ (15200 + (8 * i + k)) a) (e2 : σ2 = upd σ1 (15264 + (8 * i + k)) b) (ha : a = nI (rs (r0 μ i) k)) (hb : b = rn (r0 μ i) k) : CZ μ i (k + 1) σ2 := fun y hy => by
  by_cases e : y = k
  · subst e
    constructor
    · rw [e2, upd_ne (by omega), e1, upd_eq, ha]
    · rw [e2, upd_eq, hb]
  · constructor
    · rw [e2, upd_ne (by omega), e1, upd_ne (by omega)]
      exact (h y (by omega)).1
    · rw [e2, upd_ne (by omega), e1, upd_ne (by omega)]
      exact (h y (by omega)).2
def CA (σ : Mem) (μ : Nat → Int32) : Prop := ∀ j, j < nN μ → CR σ j (rts μ j 6) (nN μ)
theorem CA.fr {μ : Nat → Int32} {σ σ' : Mem} (h : CA σ μ) (hI : MI μ) (f : ∀ a, 15200 ≤ a → a < 15328 → σ' a = σ a) : CA σ' μ := fun j hj => by
  have h8 := mi_8 hI
  exact (h j hj).fr (fun a h1 h2 => f a h1 (by omega))
/-! going, in words -/
def GN (b : Nat) (σ : Mem) (k : Nat) (gn : Nat → Nat) : Prop := ∀ q, q < k → σ (b + q) = nI (gn q)
theorem GN.fr {b k : Nat} {gn : Nat → Nat} {σ σ' : Mem} (h : GN b σ k gn) (f : ∀ a, b ≤ a → a < b + k → σ' a = σ a) : GN b σ' k gn := fun q hq => by
  rw [f _ (by omega) (by omega)]
  exact h q hq
theorem GN.more {b k n : Nat} {gn : Nat → Nat} {σ σ' : Mem} (h : GN b σ k gn) (e : σ' = upd σ (b + k) (nI n)) : GN b σ' (k + 1) (ru gn k n) := fun q hq => by
  by_cases e9 : q = k
  · subst e9
    rw [ru_eq, e]
    exact upd_eq
  · rw [ru_ne e9, e, upd_ne (by omega)]
    exact h q (by omega)
/-! how far it is in truth, in words -/
def prB (μ : Nat → Int32) (a b : Nat) : Bool := tb (μ 1) a && tb (μ 1) b && tb (μ (24 + a)) b && tb (μ (24 + b)) a
def prS (μ : Nat → Int32) (a : Nat) : Int32 := mkS (prB μ a) 8
def prO (μ : Nat → Int32) (s : Int32) : Int32 := orS (fun a => if tb s a = true then prS μ a else nI 0) 8
def rch (μ : Nat → Int32) (st : Int32) (f : Nat) : Nat → Int32
  | 0 => bt1 f
  | n + 1 => rch μ st f n ||| (prO μ (rch μ st f n) &&& st)
def o0 (o : Option Nat) : Nat := match o with
  | none => 0
  | some n => n
def fB (μ : Nat → Int32) (st : Int32) (f t : Nat) : Nat := o0 (fs (fun n => tb (rch μ st f n) t) 8)
def far (μ : Nat → Int32) (f t : Nat) : Nat := fB μ (μ 1) f t
theorem fs_here {p : Nat → Bool} {n : Nat} (h : ∀ x, x < n → p x = false) (hp : p n = true) : ∀ m, n < m → fs p m = some n
  | 0, hm => absurd hm (Nat.not_lt_zero _)
  | m + 1, hm => by
    simp only [fs]
    by_cases e : n = m
    · subst e
      have : fs p n = none := by
        cases q : fs p n with
        | none => rfl
        | some v =>
          have := fs_lt q
          rw [h v this.1] at this
          cases this.2
      rw [this]
      dsimp only
      rw [if_pos hp]
    · rw [fs_here h hp m (by omega)]
theorem fs_none {p : Nat → Bool} : ∀ {n : Nat}, (∀ x, x < n → p x = false) → fs p n = none
  | 0, _ => rfl
  | n + 1, h => by
    simp only [fs]
    rw [fs_none (n := n) (fun x hx => h x (by omega))]
    dsimp only
    rw [if_neg (by rw [h n (by omega)]; decide)]
/-! the truth, the class's -/
def PRs (σ : Mem) (μ : Nat → Int32) : Prop := ∀ a, a < 8 → σ (15180 + a) = prS μ a
theorem PRs.fr {μ : Nat → Int32} {σ σ' : Mem} (h : PRs σ μ) (f : ∀ a, 15180 ≤ a → a < 15188 → σ' a = σ a) : PRs σ' μ := fun a ha => by
  rw [f _ (by omega) (by omega)]
  exact h a ha
def TR (σ : Mem) (μ : Nat → Int32) : Prop := σ 15030 = μ 1 ∧ PRs σ μ ∧ ∀ a, a < 8 → ∀ b, b < 8 → σ (15330 + (8 * a + b)) = nI (far μ a b)
theorem TR.fr {μ : Nat → Int32} {σ σ' : Mem} (h : TR σ μ) (f : ∀ a, 15030 ≤ a → a = 15030 ∨ (15180 ≤ a ∧ a < 15188) ∨ (15330 ≤ a ∧ a < 15394) → σ' a = σ a) : TR σ' μ := by
  refine ⟨by rw [f _ (by omega) (by omega)]; exact h.1, h.2.1.fr (fun a h1 h2 => f a (by omega) (by omega)), fun a ha b hb => ?_⟩
  rw [f _ (by omega) (by omega)]
  exact h.2.2 a ha b hb
/-! till all is told -/
set_option maxRecDepth 100000 in
set_option maxHeartbeats 4000000 in
theorem c_begin {l : Launch} {w : Wd} (hW : Wi w) {σ : Mem} (d ls : Nat) (hd : d < 243000) (hls : ls ≤ 16) : MC l w qX4_begin 0 [.ref (w.1 18), .int (nI d), .int (nI ls)] σ none (fun σ' => (CL σ' d ls (nI 0)) ∧ (∀ a, (a < 14900 ∨ 14903 ≤ a) → σ' a = σ a)) := by
  refine MC.of hW (by decide +kernel) (Nat.le_of_ble_eq_true rfl) (fun X h hQ hnm => ?_)
  have h : Fx X w cX4_begin 3 RX4 0 := h
  have hQ : Qx X w none none (fun σ' => (CL σ' d ls (nI 0)) ∧ (∀ a, (a < 14900 ∨ 14903 ≤ a) → σ' a = σ a)) := hQ
  have hcFR_σ : ∀ a, (a < 14900 ∨ 14903 ≤ a) → σ a = σ a := fun _ _ => rfl
  show G X w 3 0 [(0, .ref (w.1 18)), (1, .int (nI d)), (2, .int (nI ls))] [] σ
  refine g_aload_n h dX4_begin_0 0 rfl ?_
  refine g_iconst h dX4_begin_1 (by decide) ?_
  refine g_puti h dX4_begin_2 pX4_7 sc_18 rfl ?_
  refine g_nm (fun σ_1 eσ_1 => ?_)
  have eσ_1 : σ_1 = upd σ 14902 (nI 0) := eσ_1
  have ht14902_σ_1 : σ_1 14902 = (nI 0) := by rw [eσ_1]; exact upd_eq
  have hcFR_σ_1 : ∀ a, (a < 14900 ∨ 14903 ≤ a) → σ_1 a = σ a := by intro a ha; exact Eq.trans (b := σ a) (by rw [eσ_1, upd_ne (by first | omega | (simp only [vb] at *; omega))]) (hcFR_σ a ha)
  refine g_aload_n h dX4_begin_5 0 rfl ?_
  refine g_iload_n h dX4_begin_6 1 rfl ?_
  refine g_puti h dX4_begin_7 pX4_13 sc_18 rfl ?_
  refine g_nm (fun σ_2 eσ_2 => ?_)
  have eσ_2 : σ_2 = upd σ_1 14900 (nI d) := eσ_2
  have ht14902_σ_2 : σ_2 14902 = (nI 0) := by rw [eσ_2, upd_ne (by first | omega | (simp only [vb] at *; omega))]; first | exact ht14902_σ_1 | assumption
  have ht14900_σ_2 : σ_2 14900 = (nI d) := by rw [eσ_2]; exact upd_eq
  have hcFR_σ_2 : ∀ a, (a < 14900 ∨ 14903 ≤ a) → σ_2 a = σ a := by intro a ha; exact Eq.trans (b := σ_1 a) (by rw [eσ_2, upd_ne (by first | omega | (simp only [vb] at *; omega))]) (hcFR_σ_1 a ha)
  refine g_aload_n h dX4_begin_10 0 rfl ?_
  refine g_iload_n h dX4_begin_11 2 rfl ?_
  refine g_puti h dX4_begin_12 pX4_16 sc_18 rfl ?_
  refine g_nm (fun σ_3 eσ_3 => ?_)
  have eσ_3 : σ_3 = upd σ_2 14901 (nI ls) := eσ_3
  have ht14902_σ_3 : σ_3 14902 = (nI 0) := by rw [eσ_3, upd_ne (by first | omega | (simp only [vb] at *; omega))]; first | exact ht14902_σ_2 | assumption
  have ht14900_σ_3 : σ_3 14900 = (nI d) := by rw [eσ_3, upd_ne (by first | omega | (simp only [vb] at *; omega))]; first | exact ht14900_σ_2 | assumption
  have ht14901_σ_3 : σ_3 14901 = (nI ls) := by rw [eσ_3]; exact upd_eq
  have hcFR_σ_3 : ∀ a, (a < 14900 ∨ 14903 ≤ a) → σ_3 a = σ a := by intro a ha; exact Eq.trans (b := σ_2 a) (by rw [eσ_3, upd_ne (by first | omega | (simp only [vb] at *; omega))]) (hcFR_σ_2 a ha)
  exact g_vret h hQ dX4_begin_15 rfl (by exact ⟨(by exact ⟨ht14900_σ_3, ht14901_σ_3, ht14902_σ_3, hd, hls⟩), (by exact hcFR_σ_3)⟩)
