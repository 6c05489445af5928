/-! routes, in words -/
abbrev RT : Type := Nat → Option (Nat × Nat)
def rs (R : RT) (y : Nat) : Nat := match R y with
  | none => 0
  | some p => p.1
def rx (R : RT) (y : Nat) : Nat := match R y with
  | none => 0
  | some p => p.2
def rn (R : RT) (y : Nat) : Int32 := match R y with
  | none => -1
  | some p => nI p.2
def rset (R : RT) (y : Nat) (v : Nat × Nat) : RT := fun q => if q = y then some v else R q
def r0 (μ : Nat → Int32) (i : Nat) : RT := fun y => if tb (μ (64 + i)) y = true then some (1, y) else none
def k1 (μ : Nat → Int32) (i j y : Nat) (R : RT) : RT := if (tb (μ (64 + i)) j && tb (μ (144 + (8 * i + j))) y && !decide (y = i) && decide (rs R y = 0)) = true then rset R y (2, j) else R
def kY (μ : Nat → Int32) (i j : Nat) (R : RT) : Nat → RT
  | 0 => R
  | y + 1 => k1 μ i j y (kY μ i j R y)
def kJ (μ : Nat → Int32) (i : Nat) : Nat → RT
  | 0 => r0 μ i
  | j + 1 => kY μ i j (kJ μ i j) (nN μ)
def h1 (μ : Nat → Int32) (i x r y : Nat) (R : RT) : RT :=
  if (!decide (y = i) && tb (μ (272 + (8 * i + x))) y) = true then
    (if rs R y = 0 then rset R y (r + 1, rx R x)
     else if (decide (rs R y = r + 1) && !(decide (r = 1) && tb (kno μ i (μ (64 + i))) y)) = true then rset R y (r + 1, min (rx R y) (rx R x)) else R)
  else R
def hY (μ : Nat → Int32) (i x r : Nat) (R : RT) : Nat → RT
  | 0 => R
  | y + 1 => h1 μ i x r y (hY μ i x r R y)
def hX (μ : Nat → Int32) (i r : Nat) (here : Int32) (R : RT) : Nat → RT
  | 0 => R
  | x + 1 => if (tb here x && decide (0 < nA μ (400 + (8 * i + x)))) = true then hY μ i x r (hX μ i r here R x) (nN μ) else hX μ i r here R x
def hrS2 (R : RT) (r : Nat) (n : Nat) : Int32 := mkS (fun x => decide (rs R x = r)) n
def rgF (μ : Nat → Int32) (i : Nat) : Nat → RT
  | 0 => kJ μ i (nN μ)
  | r + 1 => hX μ i (r + 1) (hrS2 (rgF μ i r) (r + 1) (nN μ)) (rgF μ i r) (nN μ)
/-- the first of whom p holds; the least of what those have -/
def fs (p : Nat → Bool) : Nat → Option Nat
  | 0 => none
  | n + 1 => match fs p n with
    | some v => some v
    | none => if p n = true then some n else none
def mo (o : Option Nat) (v : Nat) : Nat := match o with
  | none => v
  | some w => min w v
def mnx (p : Nat → Bool) (t : Nat → Nat) : Nat → Option Nat
  | 0 => none
  | n + 1 => if p n = true then some (mo (mnx p t n) (t n)) else mnx p t n
def knB (μ : Nat → Int32) (i y j : Nat) : Bool := tb (μ (64 + i)) j && tb (μ (144 + (8 * i + j))) y
def two2 (o : Option Nat) (r : Nat) : Option (Nat × Nat) := match o with
  | none => none
  | some v => some (r, v)
def rt1 (μ : Nat → Int32) (i : Nat) : RT := fun y => if tb (μ (64 + i)) y = true then some (1, y) else if y < nN μ ∧ y ≠ i then two2 (fs (knB μ i y) (nN μ)) 2 else none
def gB (μ : Nat → Int32) (i : Nat) (R : RT) (r y x : Nat) : Bool := decide (0 < nA μ (400 + (8 * i + x))) && tb (μ (272 + (8 * i + x))) y && decide (rs R x = r)
def rtR (μ : Nat → Int32) (i r : Nat) (R : RT) : RT := fun y => if y < nN μ ∧ y ≠ i ∧ rs R y = 0 then two2 (mnx (gB μ i R r y) (rx R) (nN μ)) (r + 1) else R y
def rts (μ : Nat → Int32) (i : Nat) : Nat → RT
  | 0 => rt1 μ i
  | r + 1 => rtR μ i (r + 1) (rts μ i r)
theorem rs_set {R : RT} {y q : Nat} {v : Nat × Nat} : rs (rset R y v) q = if q = y then v.1 else rs R q := by
  unfold rs rset
  by_cases e : q = y
  · rw [if_pos e, if_pos e]
  · rw [if_neg e, if_neg e]
theorem rx_set {R : RT} {y q : Nat} {v : Nat × Nat} : rx (rset R y v) q = if q = y then v.2 else rx R q := by
  unfold rx rset
  by_cases e : q = y
  · rw [if_pos e, if_pos e]
  · rw [if_neg e, if_neg e]
theorem rn_set {R : RT} {y q : Nat} {v : Nat × Nat} : rn (rset R y v) q = if q = y then nI v.2 else rn R q := by
  unfold rn rset
  by_cases e : q = y
  · rw [if_pos e, if_pos e]
  · rw [if_neg e, if_neg e]
theorem rn_rx {R : RT} {y : Nat} (h : rs R y ≠ 0) : rn R y = nI (rx R y) := by
  unfold rs at h
  unfold rn rx
  cases e : R y with
  | none => rw [e] at h; exact absurd rfl h
  | some p => rfl
/-- no route has no step -/
def R1 (R : RT) : Prop := ∀ y p, R y = some p → 1 ≤ p.1
theorem R1.none {R : RT} (h : R1 R) {y : Nat} (e : rs R y = 0) : R y = none := by
  unfold rs at e
  cases q : R y with
  | none => rfl
  | some p =>
    rw [q] at e
    have := h y p q
    dsimp only at e
    omega
theorem rs_none {R : RT} {y : Nat} (e : R y = none) : rs R y = 0 := by
  unfold rs
  rw [e]
theorem two2_none {o : Option Nat} {r : Nat} : two2 o r = none ↔ o = none := by
  cases o <;> simp [two2]
theorem fs_lt {p : Nat → Bool} : ∀ {n v : Nat}, fs p n = some v → v < n ∧ p v = true
  | 0, v, h => by simp [fs] at h
  | n + 1, v, h => by
    simp only [fs] at h
    cases q : fs p n with
    | some w =>
      rw [q] at h
      cases h
      have := fs_lt q
      exact ⟨by omega, this.2⟩
    | none =>
      rw [q] at h
      dsimp only at h
      split at h
      · rename_i c
        cases h
        exact ⟨by omega, c⟩
      · cases h
theorem fs_no {p : Nat → Bool} : ∀ {n : Nat}, fs p n = none → ∀ x, x < n → p x = false
  | 0, _, x, hx => absurd hx (Nat.not_lt_zero _)
  | n + 1, h, x, hx => by
    simp only [fs] at h
    cases q : fs p n with
    | some w => rw [q] at h; cases h
    | none =>
      rw [q] at h
      dsimp only at h
      split at h
      · cases h
      · rename_i c
        by_cases e : x = n
        · subst e
          simpa using c
        · exact fs_no q x (by omega)
theorem mnx_some {p : Nat → Bool} {t : Nat → Nat} : ∀ {n v : Nat}, mnx p t n = some v → ∃ x, x < n ∧ p x = true ∧ t x = v
  | 0, v, h => by simp [mnx] at h
  | n + 1, v, h => by
    simp only [mnx] at h
    split at h
    · rename_i c
      cases h
      cases q : mnx p t n with
      | none => exact ⟨n, by omega, c, rfl⟩
      | some w =>
        obtain ⟨x, h1, h2, h3⟩ := mnx_some q
        unfold mo
        by_cases e : w ≤ t n
        · exact ⟨x, by omega, h2, by dsimp only; omega⟩
        · exact ⟨n, by omega, c, by dsimp only; omega⟩
    · obtain ⟨x, h1, h2, h3⟩ := mnx_some h
      exact ⟨x, by omega, h2, h3⟩
theorem mnx_none {p : Nat → Bool} {t : Nat → Nat} : ∀ {n : Nat}, (∀ x, x < n → p x = false) → mnx p t n = none
  | 0, _ => rfl
  | n + 1, h => by
    simp only [mnx]
    rw [if_neg (by rw [h n (by omega)]; decide)]
    exact mnx_none fun x hx => h x (by omega)
theorem mnx_no {p : Nat → Bool} {t : Nat → Nat} : ∀ {n : Nat}, mnx p t n = none → ∀ x, x < n → p x = false
  | 0, _, x, hx => absurd hx (Nat.not_lt_zero _)
  | n + 1, h, x, hx => by
    simp only [mnx] at h
    split at h
    · cases h
    · rename_i c
      by_cases e : x = n
      · subst e
        simpa using c
      · exact mnx_no h x (by omega)
theorem mnx_congr {p q : Nat → Bool} {t u : Nat → Nat} : ∀ {n : Nat}, (∀ x, x < n → p x = q x ∧ (q x = true → t x = u x)) → mnx p t n = mnx q u n
  | 0, _ => rfl
  | n + 1, h => by
    simp only [mnx]
    rw [mnx_congr (n := n) (fun x hx => h x (by omega)), (h n (by omega)).1]
    split
    · rename_i c
      rw [(h n (by omega)).2 c]
    · rfl
/-! the neighbours' known, in the reference's order -/
theorem kY_at {μ : Nat → Int32} {i j : Nat} {R : RT} : ∀ (n y : Nat), kY μ i j R n y = if y < n ∧ knB μ i y j = true ∧ y ≠ i ∧ rs R y = 0 then some (2, j) else R y
  | 0, y => by
    rw [if_neg (by omega)]
    rfl
  | n + 1, y => by
    have ih := kY_at (μ := μ) (i := i) (j := j) (R := R) n
    have ers : rs (kY μ i j R n) n = rs R n := by
      unfold rs
      rw [ih n, if_neg (by omega)]
    show k1 μ i j n (kY μ i j R n) y = _
    unfold k1
    rw [ers]
    by_cases c : (tb (μ (64 + i)) j && tb (μ (144 + (8 * i + j))) n && !decide (n = i) && decide (rs R n = 0)) = true
    · rw [if_pos c]
      unfold rset
      simp only [Bool.and_eq_true, Bool.not_eq_true', decide_eq_false_iff_not, decide_eq_true_eq] at c
      by_cases e : y = n
      · subst e
        rw [if_pos rfl, if_pos ⟨by omega, by unfold knB; rw [c.1.1.1, c.1.1.2]; rfl, c.1.2, c.2⟩]
      · rw [if_neg e, ih y]
        by_cases c2 : y < n ∧ knB μ i y j = true ∧ y ≠ i ∧ rs R y = 0
        · rw [if_pos c2, if_pos ⟨by omega, c2.2⟩]
        · rw [if_neg c2, if_neg (fun q => c2 ⟨by omega, q.2⟩)]
    · rw [if_neg c, ih y]
      by_cases c2 : y < n ∧ knB μ i y j = true ∧ y ≠ i ∧ rs R y = 0
      · rw [if_pos c2, if_pos ⟨by omega, c2.2⟩]
      · rw [if_neg c2, if_neg]
        rintro ⟨q1, q2, q3, q4⟩
        by_cases e : y = n
        · subst e
          apply c
          unfold knB at q2
          rw [q2]
          simp [q3, q4]
        · exact c2 ⟨by omega, q2, q3, q4⟩
theorem kJ_at {μ : Nat → Int32} {i : Nat} : ∀ (n y : Nat), kJ μ i n y = if tb (μ (64 + i)) y = true then some (1, y) else if y < nN μ ∧ y ≠ i then two2 (fs (knB μ i y) n) 2 else none
  | 0, y => by
    unfold kJ r0
    split
    · rfl
    · split <;> rfl
  | n + 1, y => by
    have ih := kJ_at (μ := μ) (i := i) n y
    show kY μ i n (kJ μ i n) (nN μ) y = _
    rw [kY_at]
    by_cases c1 : tb (μ (64 + i)) y = true
    · rw [if_pos c1] at ih ⊢
      rw [if_neg, ih]
      rintro ⟨q1, q2, q3, q4⟩
      unfold rs at q4
      rw [ih] at q4
      cases q4
    · rw [if_neg c1] at ih ⊢
      by_cases c2 : y < nN μ ∧ y ≠ i
      · rw [if_pos c2] at ih ⊢
        simp only [fs]
        cases q : fs (knB μ i y) n with
        | some v =>
          rw [q] at ih
          rw [if_neg, ih]
          rintro ⟨q1, q2, q3, q4⟩
          unfold rs at q4
          rw [ih] at q4
          cases q4
        | none =>
          rw [q] at ih
          have e0 : rs (kJ μ i n) y = 0 := rs_none ih
          dsimp only
          by_cases c3 : knB μ i y n = true
          · rw [if_pos ⟨c2.1, c3, c2.2, e0⟩, if_pos c3]
            rfl
          · rw [if_neg (fun q => c3 q.2.1), if_neg c3, ih]
      · rw [if_neg c2] at ih ⊢
        rw [if_neg (fun q => c2 ⟨q.1, q.2.2.1⟩), ih]
theorem kJ_end {μ : Nat → Int32} {i : Nat} : kJ μ i (nN μ) = rt1 μ i := funext fun y => kJ_at (nN μ) y
/-! a ring of routes, as the reference lays it -/
theorem hY_at {μ : Nat → Int32} {i x r : Nat} {S : RT} (hx : rs S x = r) (hr : 1 ≤ r) : ∀ (n y : Nat), hY μ i x r S n y =
    if y < n ∧ y ≠ i ∧ tb (μ (272 + (8 * i + x))) y = true then (if rs S y = 0 then some (r + 1, rx S x) else if rs S y = r + 1 ∧ ¬ (r = 1 ∧ tb (kno μ i (μ (64 + i))) y = true) then some (r + 1, min (rx S y) (rx S x)) else S y) else S y
  | 0, y => by
    rw [if_neg (by omega)]
    rfl
  | n + 1, y => by
    have ih := hY_at (μ := μ) (i := i) hx hr n
    have en : hY μ i x r S n n = S n := by rw [ih n, if_neg (by omega)]
    have ex : hY μ i x r S n x = S x := by
      rw [ih x]
      split
      · rw [if_neg (by omega), if_neg (by omega)]
      · rfl
    have e1 : rs (hY μ i x r S n) n = rs S n := by unfold rs; rw [en]
    have e2 : rx (hY μ i x r S n) n = rx S n := by unfold rx; rw [en]
    have e3 : rx (hY μ i x r S n) x = rx S x := by unfold rx; rw [ex]
    show h1 μ i x r n (hY μ i x r S n) y = _
    unfold h1
    rw [e1, e2, e3]
    by_cases e : y = n
    · subst e
      by_cases c : (!decide (y = i) && tb (μ (272 + (8 * i + x))) y) = true
      · rw [if_pos c]
        simp only [Bool.and_eq_true, Bool.not_eq_true', decide_eq_false_iff_not] at c
        rw [if_pos (show y < y + 1 ∧ y ≠ i ∧ tb (μ (272 + (8 * i + x))) y = true from ⟨by omega, c.1, c.2⟩)]
        by_cases c1 : rs S y = 0
        · rw [if_pos c1, if_pos c1]
          unfold rset
          rw [if_pos rfl]
        · rw [if_neg c1, if_neg c1]
          by_cases c2 : rs S y = r + 1 ∧ ¬ (r = 1 ∧ tb (kno μ i (μ (64 + i))) y = true)
          · rw [if_pos c2, if_pos]
            · unfold rset
              rw [if_pos rfl]
            · simp only [Bool.and_eq_true, Bool.not_eq_true', decide_eq_true_eq]
              refine ⟨c2.1, ?_⟩
              cases q : (decide (r = 1) && tb (kno μ i (μ (64 + i))) y) with
              | false => rfl
              | true =>
                simp only [Bool.and_eq_true, decide_eq_true_eq] at q
                exact absurd q c2.2
          · rw [if_neg c2, if_neg, en]
            intro q
            simp only [Bool.and_eq_true, Bool.not_eq_true', decide_eq_true_eq] at q
            refine c2 ⟨q.1, fun q2 => ?_⟩
            have := q.2
            rw [q2.2, decide_eq_true q2.1] at this
            cases this
      · rw [if_neg c, if_neg, en]
        rintro ⟨q1, q2, q3⟩
        apply c
        rw [q3]
        simp [q2]
    · have eo : ∀ v, rset (hY μ i x r S n) n v y = hY μ i x r S n y := fun v => by unfold rset; rw [if_neg e]
      have : (if (!decide (n = i) && tb (μ (272 + (8 * i + x))) n) = true then (if rs S n = 0 then rset (hY μ i x r S n) n (r + 1, rx S x) else if (decide (rs S n = r + 1) && !(decide (r = 1) && tb (kno μ i (μ (64 + i))) n)) = true then rset (hY μ i x r S n) n (r + 1, min (rx S n) (rx S x)) else hY μ i x r S n) else hY μ i x r S n) y = hY μ i x r S n y := by
        split
        · split
          · exact eo _
          · split
            · exact eo _
            · rfl
        · rfl
      rw [this, ih y]
      by_cases c : y < n ∧ y ≠ i ∧ tb (μ (272 + (8 * i + x))) y = true
      · rw [if_pos c, if_pos (show y < n + 1 ∧ y ≠ i ∧ tb (μ (272 + (8 * i + x))) y = true from ⟨by omega, c.2⟩)]
      · rw [if_neg c, if_neg (show ¬ (y < n + 1 ∧ y ≠ i ∧ tb (μ (272 + (8 * i + x))) y = true) from fun q => c ⟨by omega, q.2⟩)]
/-- what a ring may rely on -/
def Hr (μ : Nat → Int32) (i r : Nat) (R : RT) : Prop := 1 ≤ r ∧ R1 R ∧ (∀ y, y < nN μ → y ≠ i → rs R y = r + 1 → r = 1 ∧ tb (kno μ i (μ (64 + i))) y = true) ∧ (∀ y, y < nN μ → y ≠ i → rs R y = 0 → r = 1 → tb (kno μ i (μ (64 + i))) y = false)
theorem hX_at {μ : Nat → Int32} {i r : Nat} {R : RT} (hN : nN μ ≤ 8) (H : Hr μ i r R) : ∀ n, n ≤ nN μ → ∀ y, hX μ i r (hrS2 R r (nN μ)) R n y = if y < nN μ ∧ y ≠ i ∧ rs R y = 0 then two2 (mnx (gB μ i R r y) (rx R) n) (r + 1) else R y
  | 0, _, y => by
    show R y = _
    split
    · rename_i c
      rw [H.2.1.none c.2.2]
      rfl
    · rfl
  | n + 1, hn, y => by
    have ih := hX_at hN H n (by omega)
    obtain ⟨hr, hR1, hA, hB⟩ := H
    have hh : tb (hrS2 R r (nN μ)) n = decide (rs R n = r) := by
      unfold hrS2
      rw [tb_mkS _ _ (by omega)]
      simp
      omega
    show (if (tb (hrS2 R r (nN μ)) n && decide (0 < nA μ (400 + (8 * i + n)))) = true then hY μ i n r (hX μ i r (hrS2 R r (nN μ)) R n) (nN μ) else hX μ i r (hrS2 R r (nN μ)) R n) y = _
    rw [hh]
    by_cases c : (decide (rs R n = r) && decide (0 < nA μ (400 + (8 * i + n)))) = true
    · rw [if_pos c]
      simp only [Bool.and_eq_true, decide_eq_true_eq] at c
      have en : hX μ i r (hrS2 R r (nN μ)) R n n = R n := by rw [ih n, if_neg (by omega)]
      have es : rs (hX μ i r (hrS2 R r (nN μ)) R n) n = r := by unfold rs; rw [en]; exact c.1
      have ex : rx (hX μ i r (hrS2 R r (nN μ)) R n) n = rx R n := by unfold rx; rw [en]
      rw [hY_at es hr, ex]
      have ihy := ih y
      by_cases d : y < nN μ ∧ y ≠ i ∧ rs R y = 0
      · rw [if_pos d] at ihy ⊢
        have eg : gB μ i R r y n = tb (μ (272 + (8 * i + n))) y := by
          unfold gB
          simp [c.1, c.2]
        simp only [mnx, eg]
        by_cases t : tb (μ (272 + (8 * i + n))) y = true
        · rw [if_pos ⟨d.1, d.2.1, t⟩, if_pos t]
          cases q : mnx (gB μ i R r y) (rx R) n with
          | none =>
            rw [q] at ihy
            rw [if_pos (rs_none ihy)]
            rfl
          | some v =>
            rw [q] at ihy
            have e1 : rs (hX μ i r (hrS2 R r (nN μ)) R n) y = r + 1 := by unfold rs; rw [ihy]; rfl
            have e2 : rx (hX μ i r (hrS2 R r (nN μ)) R n) y = v := by unfold rx; rw [ihy]; rfl
            rw [if_neg (by omega), if_pos, e2]
            · rfl
            · refine ⟨e1, fun q2 => ?_⟩
              have := hB y d.1 d.2.1 d.2.2 q2.1
              rw [this] at q2
              exact absurd q2.2 (by decide)
        · rw [if_neg (fun q => t q.2.2), if_neg t, ihy]
      · rw [if_neg d] at ihy ⊢
        have e1 : rs (hX μ i r (hrS2 R r (nN μ)) R n) y = rs R y := by unfold rs; rw [ihy]
        split
        · rename_i c2
          have h0 : rs R y ≠ 0 := fun q => d ⟨c2.1, c2.2.1, q⟩
          rw [e1, if_neg h0, if_neg, ihy]
          rintro ⟨q1, q2⟩
          exact q2 (hA y c2.1 c2.2.1 q1)
        · exact ihy
    · rw [if_neg c, ih y]
      split
      · congr 1
        have eg : gB μ i R r y n = false := by
          unfold gB
          simp only [Bool.and_eq_true, decide_eq_true_eq] at c
          by_cases q1 : rs R n = r
          · by_cases q2 : 0 < nA μ (400 + (8 * i + n))
            · exact absurd ⟨q1, q2⟩ c
            · simp [q2]
          · simp [q1]
        simp only [mnx]
        rw [if_neg (by rw [eg]; decide)]
      · rfl
theorem hX_end {μ : Nat → Int32} {i r : Nat} {R : RT} (hN : nN μ ≤ 8) (H : Hr μ i r R) : hX μ i r (hrS2 R r (nN μ)) R (nN μ) = rtR μ i r R := funext fun y => hX_at hN H (nN μ) (Nat.le_refl _) y
/-- levels: each route goes on a shorter one -/
def Lv (μ : Nat → Int32) (i : Nat) (R : RT) : Prop := ∀ y p, R y = some p → 1 ≤ p.1 ∧ y < nN μ ∧ y ≠ i ∧ p.2 < nN μ ∧ (1 < p.1 → ∃ x, rs R x = p.1 - 1)
theorem Lv.r1 {μ : Nat → Int32} {i : Nat} {R : RT} (h : Lv μ i R) : R1 R := fun y p e => (h y p e).1
theorem rs_some {R : RT} {y k : Nat} (h : rs R y = k) (hk : 1 ≤ k) : ∃ p, R y = some p ∧ p.1 = k := by
  unfold rs at h
  cases q : R y with
  | none => rw [q] at h; dsimp only at h; omega
  | some p => rw [q] at h; exact ⟨p, rfl, h⟩
theorem near_lt {μ : Nat → Int32} {i y : Nat} (hI : MI μ) (hi : i < 8) (h : tb (μ (64 + i)) y = true) : y < nN μ ∧ y ≠ i := by
  constructor
  · by_cases c : y < nN μ
    · exact c
    · have := ms_near hI hi y (by omega)
      rw [h] at this
      cases this
  · intro e
    subst e
    have := (mi_self hI hi).2
    rw [h] at this
    cases this
theorem rt1_lv {μ : Nat → Int32} {i : Nat} (hI : MI μ) (hi : i < 8) : Lv μ i (rt1 μ i) := fun y p e => by
  unfold rt1 at e
  by_cases c1 : tb (μ (64 + i)) y = true
  · rw [if_pos c1] at e
    cases e
    have := near_lt hI hi c1
    exact ⟨Nat.le_refl _, this.1, this.2, this.1, fun q => absurd q (Nat.lt_irrefl 1)⟩
  · rw [if_neg c1] at e
    by_cases c2 : y < nN μ ∧ y ≠ i
    · rw [if_pos c2] at e
      cases q : fs (knB μ i y) (nN μ) with
      | none => rw [q] at e; cases e
      | some v =>
        rw [q] at e
        cases e
        have hv := fs_lt q
        refine ⟨show 1 ≤ 2 from by decide, c2.1, c2.2, hv.1, fun _ => ⟨v, ?_⟩⟩
        have h1 : tb (μ (64 + i)) v = true := by
          have := hv.2
          unfold knB at this
          rw [Bool.and_eq_true] at this
          exact this.1
        unfold rs rt1
        rw [if_pos h1]
        rfl
    · rw [if_neg c2] at e
      cases e
theorem rtR_keep {μ : Nat → Int32} {i r x : Nat} {R : RT} (h : rs R x ≠ 0) : rtR μ i r R x = R x := by
  unfold rtR
  rw [if_neg (fun q => h q.2.2)]
theorem rtR_lv {μ : Nat → Int32} {i r : Nat} {R : RT} (hr : 1 ≤ r) (h : Lv μ i R) : Lv μ i (rtR μ i r R) := fun y p e => by
  have keep : ∀ x, rs R x ≠ 0 → rs (rtR μ i r R) x = rs R x := fun x hx => by
    unfold rs
    rw [rtR_keep hx]
  by_cases c : y < nN μ ∧ y ≠ i ∧ rs R y = 0
  · unfold rtR at e
    rw [if_pos c] at e
    cases q : mnx (gB μ i R r y) (rx R) (nN μ) with
    | none => rw [q] at e; cases e
    | some v =>
      rw [q] at e
      cases e
      obtain ⟨x, hx1, hx2, hx3⟩ := mnx_some q
      have hxr : rs R x = r := by
        unfold gB at hx2
        simp only [Bool.and_eq_true, decide_eq_true_eq] at hx2
        exact hx2.2
      obtain ⟨p, hp1, hp2⟩ := rs_some hxr hr
      have hp := h x p hp1
      have hv : v = p.2 := by
        rw [← hx3]
        unfold rx
        rw [hp1]
      refine ⟨by dsimp only; omega, c.1, c.2.1, by dsimp only; omega, fun _ => ⟨x, ?_⟩⟩
      rw [keep x (by omega)]
      dsimp only
      omega
  · have e' : R y = some p := by
      unfold rtR at e
      rwa [if_neg c] at e
    obtain ⟨h1, h2, h3, h4, h5⟩ := h y p e'
    refine ⟨h1, h2, h3, h4, fun q => ?_⟩
    obtain ⟨x, hx⟩ := h5 q
    exact ⟨x, by rw [keep x (by omega)]; exact hx⟩
theorem rts_lv {μ : Nat → Int32} {i : Nat} (hI : MI μ) (hi : i < 8) : ∀ r, Lv μ i (rts μ i r)
  | 0 => rt1_lv hI hi
  | r + 1 => rtR_lv (by omega) (rts_lv hI hi r)
theorem rt1_2 {μ : Nat → Int32} {i y : Nat} : rs (rt1 μ i) y ≤ 2 := by
  unfold rs rt1
  by_cases c1 : tb (μ (64 + i)) y = true
  · rw [if_pos c1]
    exact (show 1 ≤ 2 from by decide)
  · rw [if_neg c1]
    by_cases c2 : y < nN μ ∧ y ≠ i
    · rw [if_pos c2]
      cases fs (knB μ i y) (nN μ) <;> simp [two2]
    · rw [if_neg c2]
      decide
theorem rts_le {μ : Nat → Int32} {i : Nat} : ∀ r y, rs (rts μ i (r + 1)) y ≤ r + 2
  | r, y => by
    have ih : rs (rts μ i r) y ≤ r + 2 := by
      cases r with
      | zero => exact rt1_2
      | succ r => have := rts_le (μ := μ) (i := i) r y; omega
    show rs (rtR μ i (r + 1) (rts μ i r)) y ≤ r + 2
    by_cases c : y < nN μ ∧ y ≠ i ∧ rs (rts μ i r) y = 0
    · unfold rs rtR
      rw [if_pos c]
      cases mnx (gB μ i (rts μ i r) (r + 1) y) (rx (rts μ i r)) (nN μ) <;> simp [two2]
    · have : rtR μ i (r + 1) (rts μ i r) y = rts μ i r y := by
        unfold rtR
        rw [if_neg c]
      unfold rs at ih ⊢
      rw [this]
      exact ih
theorem kn_kno {μ : Nat → Int32} {i y : Nat} : tb (kno μ i (μ (64 + i))) y = true ↔ ∃ j, j < nN μ ∧ knB μ i y j = true := by
  rw [tb_kno]
  unfold knB
  constructor
  · rintro ⟨j, h1, h2, h3⟩
    exact ⟨j, h1, by rw [h2, h3]; rfl⟩
  · rintro ⟨j, h1, h2⟩
    rw [Bool.and_eq_true] at h2
    exact ⟨j, h1, h2.1, h2.2⟩
theorem rts_hr {μ : Nat → Int32} {i : Nat} (hI : MI μ) (hi : i < 8) : ∀ r, Hr μ i (r + 1) (rts μ i r)
  | 0 => by
    refine ⟨Nat.le_refl _, (rt1_lv hI hi).r1, fun y h1 h2 h3 => ⟨rfl, ?_⟩, fun y h1 h2 h3 _ => ?_⟩
    · rw [kn_kno]
      have h3 : rs (rt1 μ i) y = 2 := h3
      unfold rs rt1 at h3
      by_cases c1 : tb (μ (64 + i)) y = true
      · rw [if_pos c1] at h3
        cases h3
      · rw [if_neg c1, if_pos ⟨h1, h2⟩] at h3
        cases q : fs (knB μ i y) (nN μ) with
        | none => rw [q] at h3; cases h3
        | some v => exact ⟨v, fs_lt q⟩
    · have h3 : rs (rt1 μ i) y = 0 := h3
      have h4 := (rt1_lv hI hi).r1.none h3
      unfold rt1 at h4
      by_cases c1 : tb (μ (64 + i)) y = true
      · rw [if_pos c1] at h4
        cases h4
      · rw [if_neg c1, if_pos ⟨h1, h2⟩, two2_none] at h4
        cases q : tb (kno μ i (μ (64 + i))) y with
        | false => rfl
        | true =>
          obtain ⟨j, hj1, hj2⟩ := kn_kno.mp q
          rw [fs_no h4 j hj1] at hj2
          cases hj2
  | r + 1 => by
    refine ⟨by omega, (rts_lv hI hi (r + 1)).r1, fun y h1 h2 h3 => ?_, fun y h1 h2 h3 h4 => by omega⟩
    have := rts_le (μ := μ) (i := i) r y
    omega
theorem rgF_rts {μ : Nat → Int32} {i : Nat} (hI : MI μ) (hi : i < 8) : ∀ r, rgF μ i r = rts μ i r
  | 0 => kJ_end
  | r + 1 => by
    show hX μ i (r + 1) (hrS2 (rgF μ i r) (r + 1) (nN μ)) (rgF μ i r) (nN μ) = rtR μ i (r + 1) (rts μ i r)
    rw [rgF_rts hI hi r]
    exact hX_end (mi_8 hI) (rts_hr hI hi r)
/-! no route has more than seven steps -/
def cn (p : Nat → Bool) : Nat → Nat
  | 0 => 0
  | n + 1 => cn p n + (p n).toNat
theorem cn_le (p : Nat → Bool) : ∀ n, cn p n ≤ n
  | 0 => Nat.le_refl _
  | n + 1 => by
    have h1 := cn_le p n
    have : (p n).toNat ≤ 1 := by cases p n <;> decide
    simp only [cn]
    omega
theorem cn_mono {p q : Nat → Bool} (h : ∀ x, p x = true → q x = true) : ∀ n, cn p n ≤ cn q n
  | 0 => Nat.le_refl _
  | n + 1 => by
    have h1 := cn_mono h n
    simp only [cn]
    have : (p n).toNat ≤ (q n).toNat := by
      cases c : p n
      · exact Nat.zero_le _
      · rw [h n c]
        decide
    omega
theorem cn_lt {p q : Nat → Bool} (h : ∀ x, p x = true → q x = true) {x : Nat} (hp : p x = false) (hq : q x = true) : ∀ n, x < n → cn p n < cn q n
  | 0, hn => absurd hn (Nat.not_lt_zero _)
  | n + 1, hn => by
    simp only [cn]
    by_cases e : x = n
    · subst e
      have h1 := cn_mono h x
      rw [hp, hq]
      simp
      omega
    · have h1 := cn_lt h hp hq n (by omega)
      have : (p n).toNat ≤ (q n).toNat := by
        cases c : p n
        · exact Nat.zero_le _
        · rw [h n c]
          decide
      omega
theorem lv_cn {μ : Nat → Int32} {i : Nat} {R : RT} (hN : nN μ ≤ 8) (h : Lv μ i R) : ∀ k y, rs R y = k → 1 ≤ k → k ≤ cn (fun q => decide (1 ≤ rs R q) && decide (rs R q ≤ k)) 8
  | 0, _, _, hk => by omega
  | k + 1, y, hy, _ => by
    obtain ⟨p, hp1, hp2⟩ := rs_some hy (by omega)
    obtain ⟨q1, q2, q3, q4, q5⟩ := h y p hp1
    have hlt : cn (fun q => decide (1 ≤ rs R q) && decide (rs R q ≤ k)) 8 < cn (fun q => decide (1 ≤ rs R q) && decide (rs R q ≤ k + 1)) 8 := by
      refine cn_lt (x := y) (fun x hx => ?_) ?_ ?_ 8 (by omega)
      · simp only [Bool.and_eq_true, decide_eq_true_eq] at hx ⊢
        omega
      · rw [hy]
        simp
      · rw [hy]
        simp
    by_cases k0 : k = 0
    · subst k0
      omega
    · obtain ⟨x, hx⟩ := q5 (by omega)
      have := lv_cn hN h k x (by omega) (by omega)
      omega
theorem lv_7 {μ : Nat → Int32} {i : Nat} {R : RT} (hN : nN μ ≤ 8) (hi : i < 8) (h : Lv μ i R) (y : Nat) : rs R y ≤ 7 := by
  have down : ∀ k y, rs R y = 8 + k → ∃ x, rs R x = 8 := by
    intro k
    induction k with
    | zero => exact fun y hy => ⟨y, hy⟩
    | succ k ih =>
      intro y hy
      obtain ⟨p, hp1, hp2⟩ := rs_some hy (by omega)
      obtain ⟨x, hx⟩ := (h y p hp1).2.2.2.2 (by omega)
      exact ih x (by omega)
  by_cases c : rs R y ≤ 7
  · exact c
  · exfalso
    obtain ⟨x, hx⟩ := down (rs R y - 8) y (by omega)
    have h8 := lv_cn hN h 8 x hx (by omega)
    have hlt : cn (fun q => decide (1 ≤ rs R q) && decide (rs R q ≤ 8)) 8 < cn (fun _ => true) 8 := by
      refine cn_lt (x := i) (fun _ _ => rfl) ?_ rfl 8 hi
      cases q : (decide (1 ≤ rs R i) && decide (rs R i ≤ 8)) with
      | false => rfl
      | true =>
        simp only [Bool.and_eq_true, decide_eq_true_eq] at q
        obtain ⟨p, hp1, hp2⟩ := rs_some (R := R) (y := i) rfl q.1
        exact absurd rfl (h i p hp1).2.2.1
    have := cn_le (fun _ => true) 8
    omega
theorem rtR_end {μ : Nat → Int32} {i r : Nat} {R : RT} (hN : nN μ ≤ 8) (hi : i < 8) (hr : 7 ≤ r) (h : Lv μ i R) : rtR μ i r R = R := funext fun y => by
  by_cases c : y < nN μ ∧ y ≠ i ∧ rs R y = 0
  · have h2 := lv_7 hN hi (rtR_lv (r := r) (by omega) h) y
    unfold rtR
    rw [if_pos c, h.r1.none c.2.2]
    cases q : mnx (gB μ i R r y) (rx R) (nN μ) with
    | none => rfl
    | some v =>
      exfalso
      unfold rs rtR at h2
      rw [if_pos c, q] at h2
      simp only [two2] at h2
      omega
  · unfold rtR
    rw [if_neg c]
theorem rts_8 {μ : Nat → Int32} {i : Nat} (hI : MI μ) (hi : i < 8) : rgF μ i 8 = rts μ i 6 := by
  have h8 := mi_8 hI
  rw [rgF_rts hI hi]
  show rtR μ i 8 (rtR μ i 7 (rts μ i 6)) = rts μ i 6
  rw [rtR_end h8 hi (by omega) (rts_lv hI hi 6), rtR_end h8 hi (by omega) (rts_lv hI hi 6)]
