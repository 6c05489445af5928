/-! ticks: losses, hellos, topologies, floods, notices -/
def drw (d : Nat) : Nat := (d * 4561 + 51349) % 243000
def lsB (d ls : Nat) : Bool := decide (drw d * 16 / 243000 < ls)
def lsN (d ls : Nat) (lo : Int32) : Int32 := if lsB d ls then lo + nI 1 else lo
theorem drw_lt (d : Nat) : drw d < 243000 := Nat.mod_lt _ (by decide)
/-- the class's losses -/
def CL (σ : Mem) (d ls : Nat) (lo : Int32) : Prop := σ 14900 = nI d ∧ σ 14901 = nI ls ∧ σ 14902 = lo ∧ d < 243000 ∧ ls ≤ 16
/-- the reference's -/
def RLs (σ : Mem) (d ls : Nat) (lo : Int32) : Prop := (σ 4901 = -1 ∧ ls = 0) ∨ (σ 4900 = nI d ∧ σ 4901 = nI ls ∧ σ 4902 = lo ∧ d < 243000 ∧ ls ≤ 16)
theorem CL.fr {σ σ' : Mem} {d ls : Nat} {lo : Int32} (h : CL σ d ls lo) (h0 : σ' 14900 = σ 14900) (h1 : σ' 14901 = σ 14901) (h2 : σ' 14902 = σ 14902) : CL σ' d ls lo := by
  unfold CL
  rw [h0, h1, h2]
  exact h
theorem RLs.fr {σ σ' : Mem} {d ls : Nat} {lo : Int32} (h : RLs σ d ls lo) (h0 : σ' 4900 = σ 4900) (h1 : σ' 4901 = σ 4901) (h2 : σ' 4902 = σ 4902) : RLs σ' d ls lo := by
  unfold RLs
  rw [h0, h1, h2]
  exact h
def PW (N a : Nat) (x : Int32) : Prop :=
  (nb a ≠ 0 → ∃ n, n < nb a ∧ x = nI n) ∧ (3 ≤ a → a ≤ 5 → x ≠ nI 0) ∧ (24 ≤ a → a < 32 → tb x (a - 24) = false) ∧ (64 ≤ a → a < 72 → tb x (a - 64) = false ∧ sb N x) ∧
  (a = 1 → sb N x) ∧ (48 ≤ a → a < 56 → sb 8 x) ∧ (144 ≤ a → a < 208 → sb 8 x) ∧ (400 ≤ a → a < 464 → N ≤ (a - 400) % 8 → x = nI 0)
theorem nb_big {a : Nat} (h : nb a ≠ 0) : nb a ≤ 1000 := by
  revert h
  unfold nb
  repeat' split
  all_goals (intro h; omega)
theorem nA_nI {μ : Nat → Int32} {a n : Nat} (hn : n < 2 ^ 31) (e : μ a = nI n) : nA μ a = n := by
  unfold nA
  rw [e, nI_clamp hn]
theorem mi_pw {μ : Nat → Int32} (h : MI μ) (a : Nat) : PW (nN μ) a (μ a) := by
  refine ⟨fun ha => ⟨nA μ a, mi_b h ha, mi_a h ha⟩, fun h1 h2 e => ?_, fun h1 h2 => ?_, fun h1 h2 => ?_, fun e => by subst e; exact ms_on h, fun h1 h2 => ?_, fun h1 h2 => ?_, fun h1 h2 h3 => ?_⟩
  · have e0 : nA μ a = 0 := nA_nI (by decide) e
    have l3 := ml_3 h
    have l4 := ml_4 h
    have l5 := ml_5 h
    have : a = 3 ∨ a = 4 ∨ a = 5 := by omega
    rcases this with rfl | rfl | rfl <;> omega
  · have := (mi_self h (i := a - 24) (by omega)).1
    rwa [show 24 + (a - 24) = a from by omega] at this
  · have := (mi_self h (i := a - 64) (by omega)).2
    have h3 := ms_near h (i := a - 64) (by omega)
    rw [show 64 + (a - 64) = a from by omega] at this h3
    exact ⟨this, h3⟩
  · have h3 := ms_rel h (i := a - 48) (by omega)
    rwa [show 48 + (a - 48) = a from by omega] at h3
  · have h3 := ms_kno h (k := a - 144) (by omega)
    rwa [show 144 + (a - 144) = a from by omega] at h3
  · have h4 := ml_left h (i := (a - 400) / 8) (j := (a - 400) % 8) (by omega) h3 (by omega)
    rwa [show 400 + (8 * ((a - 400) / 8) + (a - 400) % 8) = a from by omega] at h4
theorem mi_of {μ : Nat → Int32} (h0 : μ 0 = nI (nN μ)) (h8 : nN μ ≤ 8) (h65 : nA μ 6 ≤ nA μ 5) (hp : ∀ a, a ≠ 0 → PW (nN μ) a (μ a)) : MI μ := by
  have num : ∀ a, nb a ≠ 0 → μ a = nI (nA μ a) ∧ nA μ a < nb a := fun a ha => by
    have ha0 : a ≠ 0 := by intro e; subst e; exact ha (by decide)
    obtain ⟨n, hn, e⟩ := (hp a ha0).1 ha
    have hb := nb_big ha
    have e2 : nA μ a = n := nA_nI (by omega) e
    rw [e2]
    exact ⟨e, hn⟩
  have pos : ∀ a, 3 ≤ a → a ≤ 5 → 1 ≤ nA μ a := fun a h1 h2 => by
    have hx := (hp a (by omega)).2.1 h1 h2
    have hb : nb a ≠ 0 := by
      have : a = 3 ∨ a = 4 ∨ a = 5 := by omega
      rcases this with rfl | rfl | rfl <;> decide
    have e := (num a hb).1
    by_cases q : 1 ≤ nA μ a
    · exact q
    · exfalso
      apply hx
      rw [e, show nA μ a = 0 from by omega]
  refine ⟨⟨h0, h8⟩, num, ⟨pos 3 (by omega) (by omega), pos 4 (by omega) (by omega), pos 5 (by omega) (by omega), h65⟩, fun i hi => ⟨?_, ?_⟩, ⟨(hp 1 (by decide)).2.2.2.2.1 rfl, fun i hi => ⟨?_, ?_⟩, fun k hk => ?_⟩, fun i j hi hj hj8 => ?_⟩
  · have := (hp (24 + i) (by omega)).2.2.1 (by omega) (by omega)
    rwa [show 24 + i - 24 = i from by omega] at this
  · have := ((hp (64 + i) (by omega)).2.2.2.1 (by omega) (by omega)).1
    rwa [show 64 + i - 64 = i from by omega] at this
  · exact ((hp (64 + i) (by omega)).2.2.2.1 (by omega) (by omega)).2
  · exact (hp (48 + i) (by omega)).2.2.2.2.2.1 (by omega) (by omega)
  · exact (hp (144 + k) (by omega)).2.2.2.2.2.2.1 (by omega) (by omega)
  · exact (hp (400 + (8 * i + j)) (by omega)).2.2.2.2.2.2.2 (by omega) (by omega) (by omega)
theorem nN_upd {μ : Nat → Int32} {a : Nat} {x : Int32} (ha : a ≠ 0) : nN (upd μ a x) = nN μ := by
  unfold nN
  rw [upd_ne (Ne.symm ha)]
theorem nA_upd {μ : Nat → Int32} {a b : Nat} {x : Int32} (ha : b ≠ a) : nA (upd μ a x) b = nA μ b := by
  unfold nA
  rw [upd_ne ha]
/-- one cell more is written -/
theorem mi_upd {μ : Nat → Int32} {a : Nat} {x : Int32} (h : MI μ) (ha : a ≠ 0) (h56 : a ≠ 5 ∧ a ≠ 6) (hp : PW (nN μ) a x) : MI (upd μ a x) := by
  refine mi_of ?_ ?_ ?_ fun b hb => ?_
  · rw [nN_upd ha, upd_ne (Ne.symm ha)]
    exact mi_0 h
  · rw [nN_upd ha]
    exact mi_8 h
  · rw [nA_upd (Ne.symm h56.2), nA_upd (Ne.symm h56.1)]
    exact ml_6 h
  · rw [nN_upd ha]
    by_cases e : b = a
    · subst e
      rw [upd_eq]
      exact hp
    · rw [upd_ne e]
      exact mi_pw h b
theorem pw_free {N a : Nat} {x : Int32} (h : a = 2 ∨ (7 ≤ a ∧ a < 16) ∨ (40 ≤ a ∧ a < 48) ∨ (56 ≤ a ∧ a < 64) ∨ (72 ≤ a ∧ a < 80) ∨ (272 ≤ a ∧ a < 336)) : PW N a x := by
  have e : nb a = 0 := by
    unfold nb
    repeat (first | rw [if_neg (by omega)] | rfl)
  exact ⟨fun q => absurd e q, fun _ _ => by omega, fun _ _ => by omega, fun _ _ => by omega, fun _ => by omega, fun _ _ => by omega, fun _ _ => by omega, fun _ _ => by omega⟩
theorem pw_num {N a n : Nat} (hn : n < nb a) (h35 : 3 ≤ a → a ≤ 5 → 0 < n) (h400 : 400 ≤ a → a < 464 → N ≤ (a - 400) % 8 → n = 0) : PW N a (nI n) := by
  have hb : nb a ≠ 0 := by omega
  have hr : (3 ≤ a ∧ a ≤ 6) ∨ (16 ≤ a ∧ a < 24) ∨ (32 ≤ a ∧ a < 40) ∨ (80 ≤ a ∧ a < 144) ∨ (208 ≤ a ∧ a < 272) ∨ (336 ≤ a ∧ a < 464) := by
    revert hb
    unfold nb
    repeat' split
    all_goals (intro hb; omega)
  have hl := nb_big hb
  refine ⟨fun _ => ⟨n, hn, rfl⟩, fun h1 h2 e => ?_, fun _ _ => by omega, fun _ _ => by omega, fun _ => by omega, fun _ _ => by omega, fun _ _ => by omega, fun h1 h2 h3 => by rw [h400 h1 h2 h3]⟩
  have := nI_inj (by omega) (by decide) e
  have := h35 h1 h2
  omega
theorem pw_set {N a : Nat} {x : Int32} (ha : (24 ≤ a ∧ a < 32) ∨ (48 ≤ a ∧ a < 56) ∨ (64 ≤ a ∧ a < 72) ∨ (144 ≤ a ∧ a < 208)) (h24 : a < 32 → tb x (a - 24) = false) (h64 : 64 ≤ a → a < 72 → tb x (a - 64) = false ∧ sb N x) (h8 : a < 64 ∨ 72 ≤ a → 32 ≤ a → sb 8 x) : PW N a x := by
  have e : nb a = 0 := by
    unfold nb
    repeat (first | rw [if_neg (by omega)] | rfl)
  exact ⟨fun q => absurd e q, fun _ _ => by omega, fun _ h => h24 h, fun h1 h2 => h64 h1 h2, fun _ => by omega, fun _ _ => h8 (by omega) (by omega), fun _ _ => h8 (by omega) (by omega), fun _ _ => by omega⟩
def hrU (μ : Nat → Int32) (i j : Nat) (h : Bool) : Bool := isU μ (prv (nA μ (80 + (8 * i + j))) h) (tb (μ (56 + i)) j)
def hrN (μh μ : Nat → Int32) (i j : Nat) (h : Bool) : Bool := hrU μ i j h && (if h = true then tb (μh (56 + j)) i else tb (μ (64 + i)) j)
def hrS (μh μ : Nat → Int32) (i j : Nat) (h : Bool) : Nat → Int32 := fun a =>
  if a = 80 + (8 * i + j) then nI (prv (nA μ (80 + (8 * i + j))) h)
  else if a = 56 + i then wth (μ (56 + i)) j (hrU μ i j h)
  else if a = 64 + i then wth (μ (64 + i)) j (hrN μh μ i j h)
  else if a = 144 + (8 * i + j) then (if (h || !hrN μh μ i j h) = true then (if hrN μh μ i j h = true then μh (64 + j) else nI 0) else μ a)
  else if a = 72 + i then (if (h || !hrN μh μ i j h) = true then wth (μ (72 + i)) j (hrN μh μ i j h && tb (μh (48 + j)) i) else μ a)
  else μ a
theorem prv_lt {q : Nat} {h : Bool} (hq : q < 1000) : prv q h < 1000 := by
  unfold prv
  split <;> omega
/-- told as a tick began: of all what they had -/
def HT (b : Nat) (μh : Nat → Int32) (σ : Mem) : Prop := ∀ j, j < 8 → σ (b + j) = μh (56 + j) ∧ σ (b + 10 + j) = μh (64 + j) ∧ σ (b + 20 + j) = μh (48 + j)
theorem hr_mi {μh μ : Nat → Int32} {i j : Nat} {h : Bool} (hI : MI μ) (hN : nN μh = nN μ) (hh : MI μh) (hi : i < nN μ) (hj : j < nN μ) (hij : i ≠ j) : MI (hrS μh μ i j h) := by
  have h8 := mi_8 hI
  have e0 : hrS μh μ i j h 0 = μ 0 := by
    unfold hrS
    repeat (first | rw [if_neg (by omega)] | rfl)
  have eN : nN (hrS μh μ i j h) = nN μ := by
    unfold nN
    rw [e0]
  have e5 : hrS μh μ i j h 5 = μ 5 := by
    unfold hrS
    repeat (first | rw [if_neg (by omega)] | rfl)
  have e6 : hrS μh μ i j h 6 = μ 6 := by
    unfold hrS
    repeat (first | rw [if_neg (by omega)] | rfl)
  refine mi_of (by rw [e0, eN]; exact mi_0 hI) (by rw [eN]; exact h8) (by unfold nA; rw [e5, e6]; exact ml_6 hI) fun a ha => ?_
  rw [eN]
  unfold hrS
  have hq := mb_80 hI (j := 8 * i + j) (by omega)
  split
  · rename_i e
    subst e
    exact pw_num (by rw [nb80 (by omega)]; exact prv_lt hq) (by omega) (by omega)
  · split
    · exact pw_free (by omega)
    · split
      · rename_i e
        subst e
        have hs := ms_near hI (i := i) (by omega)
        refine pw_set (by omega) (by omega) (fun _ _ => ⟨?_, sb_wth hs hj (by omega)⟩) (by omega)
        rw [show 64 + i - 64 = i from by omega, tb_wth (by omega) (by omega), if_neg hij]
        exact (mi_self hI (by omega)).2
      · split
        · rename_i e
          split
          · split
            · refine pw_set (by omega) (by omega) (by omega) (fun _ _ => sb_mono (Nat.le_trans (Nat.le_of_eq hN) h8) (ms_near hh (by omega)))
            · exact pw_set (by omega) (by omega) (by omega) (fun _ _ => sb_0)
          · exact mi_pw hI a
        · split
          · split
            · exact pw_free (by omega)
            · exact mi_pw hI a
          · exact mi_pw hI a
def oldB (a b : Nat) : Bool := decide (1 ≤ (b + 16 - a) % 16) && decide ((b + 16 - a) % 16 ≤ 7)
theorem old_c : ∀ a, a < 16 → ∀ b, b < 16 → (nI b - nI a + nI 16) - (nI b - nI a + nI 16) / nI 16 * nI 16 = nI ((b + 16 - a) % 16) := by decide +kernel
def tkB (μ : Nat → Int32) (k n : Nat) : Bool := !(decide (0 < nA μ (400 + k)) && oldB n (nA μ (336 + k)))
def tkS (μ : Nat → Int32) (k n : Nat) (s : Int32) : Nat → Int32 :=
  if tkB μ k n = true then upd (upd (upd μ (272 + k) s) (336 + k) (nI n)) (400 + k) (μ 4) else upd μ 9 (μ 9 + nI 1)
theorem tk_fix {μ : Nat → Int32} {k n a : Nat} {s : Int32} (ha : a < 272) (h9 : a ≠ 9) : tkS μ k n s a = μ a := by
  unfold tkS
  split
  · rw [upd_ne (by omega), upd_ne (by omega), upd_ne (by omega)]
  · rw [upd_ne h9]
theorem tk_mi {μ : Nat → Int32} {k n : Nat} {s : Int32} (h : MI μ) (hk : k < 64) (hc : k % 8 < nN μ) (hn : n < 16) : MI (tkS μ k n s) := by
  unfold tkS
  split
  · have h1 := mi_upd (a := 272 + k) (x := s) h (by omega) (by omega) (pw_free (by omega))
    have h2 := mi_upd (a := 336 + k) (x := nI n) h1 (by omega) (by omega) (pw_num (by rw [nb336 hk]; exact hn) (by omega) (by omega))
    have e : μ 4 = nI (nA μ 4) := mi_4 h
    rw [e]
    refine mi_upd h2 (by omega) (by omega) (pw_num (by rw [nb400 hk]; exact mb_4 h) (by omega) (fun _ _ q => ?_))
    rw [nN_upd (by omega), nN_upd (by omega), show 400 + k - 400 = k from by omega] at q
    omega
  · exact mi_upd h (by omega) (by omega) (pw_free (by omega))
def may (μ : Nat → Int32) (i f : Nat) : Bool := tb (μ (64 + i)) f && cms μ i f
def ru (r : Nat → Nat) (k i : Nat) : Nat → Nat := fun q => if q = k then i else r q
abbrev FT : Type := (Nat → Nat) × Nat × Int32 × Int32 × (Nat → Int32) × Nat × Int32
def fl1 (node : Nat) (bl td : Bool) (ls f i : Nat) (s : FT) : FT :=
  if may s.2.2.2.2.1 i f = true then
    (if lsB s.2.2.2.2.2.1 ls = true then (s.1, s.2.1, s.2.2.1, s.2.2.2.1, s.2.2.2.2.1, drw s.2.2.2.2.2.1, lsN s.2.2.2.2.2.1 ls s.2.2.2.2.2.2)
     else
      (if (!tb s.2.2.1 i && (bl || tb (s.2.2.2.2.1 (72 + i)) f)) = true then ru s.1 s.2.1 i else s.1,
       if (!tb s.2.2.1 i && (bl || tb (s.2.2.2.2.1 (72 + i)) f)) = true then s.2.1 + 1 else s.2.1,
       if (!tb s.2.2.1 i && (bl || tb (s.2.2.2.2.1 (72 + i)) f)) = true then s.2.2.1 ||| bt1 i else s.2.2.1,
       if (!decide (i = node) && !tb s.2.2.2.1 i) = true then s.2.2.2.1 ||| bt1 i else s.2.2.2.1,
       if (td && (!decide (i = node) && !tb s.2.2.2.1 i)) = true then tkS s.2.2.2.2.1 (8 * i + node) (nA s.2.2.2.2.1 (32 + node)) (s.2.2.2.2.1 (40 + node)) else s.2.2.2.2.1,
       drw s.2.2.2.2.2.1, lsN s.2.2.2.2.2.1 ls s.2.2.2.2.2.2))
  else s
def flI (node : Nat) (bl td : Bool) (ls f : Nat) : Nat → FT → FT
  | 0, s => s
  | i + 1, s => fl1 node bl td ls f i (flI node bl td ls f i s)
/-- n have sent -/
def flW (node : Nat) (bl td : Bool) (ls N : Nat) (s : FT) : Nat → FT
  | 0 => s
  | n + 1 => if n < (flW node bl td ls N s n).2.1 then flI node bl td ls ((flW node bl td ls N s n).1 n) N (flW node bl td ls N s n) else flW node bl td ls N s n
def flS (node : Nat) (bl td : Bool) (ls : Nat) (μ : Nat → Int32) (d : Nat) (lo : Int32) : FT := flW node bl td ls (nN μ) (fun _ => node, 1, bt1 node, nI 0, μ, d, lo) 8
/-! carried facts; a tick, in words -/
theorem nI_leq {a b : Nat} (ha : a < 2 ^ 31) (hb : b < 2 ^ 31) : nI a ≤ nI b ↔ a ≤ b := by
  rw [Int32.le_iff_toInt_le, nI_toInt ha, nI_toInt hb]
  omega
theorem nI_ltq {a b : Nat} (ha : a < 2 ^ 31) (hb : b < 2 ^ 31) : nI a < nI b ↔ a < b := by
  rw [Int32.lt_iff_toInt_lt, nI_toInt ha, nI_toInt hb]
  omega
theorem HT.fr {b : Nat} {μh : Nat → Int32} {σ σ' : Mem} (h : HT b μh σ) (f : ∀ a, b ≤ a → a < b + 28 → σ' a = σ a) : HT b μh σ' := fun j hj => by
  rw [f _ (by omega) (by omega), f _ (by omega) (by omega), f _ (by omega) (by omega)]
  exact h j hj
def hrH (μ : Nat → Int32) (i j d ls : Nat) : Bool := cms μ i j && !lsB d ls
def hrD (μ : Nat → Int32) (i j d : Nat) : Nat := if cms μ i j = true then drw d else d
def hrL (μ : Nat → Int32) (i j d ls : Nat) (lo : Int32) : Int32 := if cms μ i j = true then lsN d ls lo else lo
/-- what holds of a flood's state -/
def FW (μ0 : Nat → Int32) (node : Nat) (s : FT) : Prop :=
  MI s.2.2.2.2.1 ∧ (∀ a, a < 272 → a ≠ 9 → s.2.2.2.2.1 a = μ0 a) ∧ s.2.1 = pc s.2.2.1 ∧ sb (nN μ0) s.2.2.1 ∧
  (∀ k, k < s.2.1 → s.1 k < nN μ0 ∧ tb (μ0 1) (s.1 k) = true) ∧ sb (nN μ0) s.2.2.2.1 ∧ tb s.2.2.2.1 node = false
theorem ru_eq {r : Nat → Nat} {k i : Nat} : ru r k i k = i := by simp [ru]
theorem ru_ne {r : Nat → Nat} {k i q : Nat} (h : q ≠ k) : ru r k i q = r q := by simp [ru, h]
theorem FW.step {μ0 : Nat → Int32} {node : Nat} {bl td : Bool} {ls f i : Nat} {s : FT} (h : FW μ0 node s) (h0 : MI μ0) (hn : node < nN μ0) (hi : i < nN μ0) (hf : f < nN μ0) : FW μ0 node (fl1 node bl td ls f i s) := by
  have h8 := mi_8 h0
  unfold fl1
  by_cases c1 : may s.2.2.2.2.1 i f = true
  · rw [if_pos c1]
    by_cases c2 : lsB s.2.2.2.2.2.1 ls = true
    · rw [if_pos c2]
      exact ⟨h.1, h.2.1, h.2.2.1, h.2.2.2.1, h.2.2.2.2.1, h.2.2.2.2.2.1, h.2.2.2.2.2.2⟩
    · rw [if_neg c2]
      obtain ⟨a1, a2, a3, a4, a5, a6, a7⟩ := h
      have hon : tb (μ0 1) i = true := by
        unfold may cms at c1
        rw [a2 1 (by omega) (by omega)] at c1
        simp only [Bool.and_eq_true] at c1
        exact c1.2.1.1.1
      refine ⟨?_, ?_, ?_, ?_, ?_, ?_, ?_⟩
      · simp only
        split
        · have e : nN s.2.2.2.2.1 = nN μ0 := by
            unfold nN
            rw [a2 0 (by omega) (by omega)]
          exact tk_mi a1 (by omega) (by rw [e, show (8 * i + node) % 8 = node from by omega]; exact hn) (mb_32 a1 (by omega))
        · exact a1
      · intro a ha h9
        simp only
        split
        · rw [tk_fix ha h9]
          exact a2 a ha h9
        · exact a2 a ha h9
      · simp only
        split
        · rename_i c3
          simp only [Bool.and_eq_true, Bool.not_eq_true'] at c3
          rw [pc_bt1 (by omega) c3.1, a3]
        · exact a3
      · simp only
        split
        · exact sb_or a4 (sb_bt1 hi (by omega))
        · exact a4
      · simp only
        split
        · intro k hk
          by_cases e : k = s.2.1
          · subst e
            rw [ru_eq]
            exact ⟨hi, hon⟩
          · rw [ru_ne e]
            exact a5 k (by omega)
        · exact a5
      · simp only
        split
        · exact sb_or a6 (sb_bt1 hi (by omega))
        · exact a6
      · simp only
        split
        · rename_i c3
          simp only [Bool.and_eq_true, Bool.not_eq_true', decide_eq_false_iff_not] at c3
          rw [tb_or, a7, tb_bt1 (by omega)]
          simp
          omega
        · exact a7
  · rw [if_neg c1]
    exact h
theorem FW.row {μ0 : Nat → Int32} {node : Nat} {bl td : Bool} {ls f : Nat} {s : FT} (h : FW μ0 node s) (h0 : MI μ0) (hn : node < nN μ0) (hf : f < nN μ0) : ∀ n, n ≤ nN μ0 → FW μ0 node (flI node bl td ls f n s)
  | 0, _ => h
  | n + 1, hl => (FW.row h h0 hn hf n (by omega)).step h0 hn (by omega) hf
theorem FW.sent {μ0 : Nat → Int32} {node : Nat} {bl td : Bool} {ls : Nat} {s : FT} (h : FW μ0 node s) (h0 : MI μ0) (hn : node < nN μ0) : ∀ n, FW μ0 node (flW node bl td ls (nN μ0) s n)
  | 0 => h
  | n + 1 => by
    have ih := FW.sent (bl := bl) (td := td) (ls := ls) h h0 hn n
    simp only [flW]
    split
    · rename_i c
      exact ih.row h0 hn (ih.2.2.2.2.1 _ c).1 _ (Nat.le_refl _)
    · exact ih
theorem FW.ini {μ : Nat → Int32} {node d : Nat} {lo : Int32} (h0 : MI μ) (hn : node < nN μ) (hon : tb (μ 1) node = true) : FW μ node (fun _ => node, 1, bt1 node, nI 0, μ, d, lo) := by
  have h8 := mi_8 h0
  have e1 : ∀ k, k < 8 → 1 = pc (bt1 k) := by decide
  exact ⟨h0, fun _ _ _ => rfl, e1 node (by omega), sb_bt1 hn (by omega), fun _ _ => ⟨hn, hon⟩, sb_0, tb_n0 _⟩
theorem flW_end {node : Nat} {bl td : Bool} {ls N : Nat} {s : FT} {n : Nat} (h : ¬ n < (flW node bl td ls N s n).2.1) : ∀ k, flW node bl td ls N s (n + k) = flW node bl td ls N s n
  | 0 => rfl
  | k + 1 => by
    rw [← Nat.add_assoc, flW, flW_end h k, if_neg (by omega)]
theorem flW_8 {μ : Nat → Int32} {node : Nat} {bl td : Bool} {ls n d : Nat} {lo : Int32} (hn : n ≤ 8) (h : ¬ n < (flW node bl td ls (nN μ) (fun _ => node, 1, bt1 node, nI 0, μ, d, lo) n).2.1) : flW node bl td ls (nN μ) (fun _ => node, 1, bt1 node, nI 0, μ, d, lo) n = flS node bl td ls μ d lo := by
  have := flW_end h (8 - n)
  rw [show n + (8 - n) = 8 from by omega] at this
  exact this.symm
theorem FW.all {μ : Nat → Int32} {node ls d : Nat} {bl td : Bool} {lo : Int32} (h0 : MI μ) (hn : node < nN μ) (hon : tb (μ 1) node = true) : FW μ node (flS node bl td ls μ d lo) := (FW.ini h0 hn hon).sent h0 hn 8
def rnw (μ : Nat → Int32) (node : Nat) : Nat → Int32 := upd (if μ (72 + node) = μ (40 + node) then μ else upd μ (32 + node) (nI ((nA μ (32 + node) + 1) % 16))) (40 + node) (μ (72 + node))
def LR (b : Nat) (σ : Mem) (n : Nat) (g : Nat → Nat → Int32) : Prop := σ (b + 10) = nI (min n 16) ∧ ∀ i w, i < min n 16 → w < 4 → σ (b + 464 + (4 * (min n 16 - 1 - i) + w)) = g i w
def LC (b : Nat) (σ : Mem) (n : Nat) (g : Nat → Nat → Int32) : Prop := ∀ i w, i < min n 16 → w < 4 → σ (b + 464 + (4 * ((n - 1 - i) % 16) + w)) = g i w
theorem LR.fr {b n : Nat} {g : Nat → Nat → Int32} {σ σ' : Mem} (h : LR b σ n g) (f : ∀ a, a = b + 10 ∨ (b + 464 ≤ a ∧ a < b + 528) → σ' a = σ a) : LR b σ' n g :=
  ⟨by rw [f _ (by omega)]; exact h.1, fun i w hi hw => by rw [f _ (by omega)]; exact h.2 i w hi hw⟩
theorem LC.fr {b n : Nat} {g : Nat → Nat → Int32} {σ σ' : Mem} (h : LC b σ n g) (f : ∀ a, b + 464 ≤ a → a < b + 528 → σ' a = σ a) : LC b σ' n g :=
  fun i w hi hw => by rw [f _ (by omega) (by omega)]; exact h i w hi hw
def pu (g : Nat → Nat → Int32) (x0 x1 x2 x3 : Int32) : Nat → Nat → Int32 := fun i w => if i = 0 then (if w = 0 then x0 else if w = 1 then x1 else if w = 2 then x2 else x3) else g (i - 1) w
theorem LC.push {b n : Nat} {g : Nat → Nat → Int32} {σ σ' : Mem} {x0 x1 x2 x3 : Int32} (h : LC b σ n g) (h0 : σ' (b + 464 + (4 * (n % 16))) = x0) (h1 : σ' (b + 464 + (4 * (n % 16) + 1)) = x1) (h2 : σ' (b + 464 + (4 * (n % 16) + 2)) = x2) (h3 : σ' (b + 464 + (4 * (n % 16) + 3)) = x3)
    (f : ∀ a, b + 464 ≤ a → a < b + 528 → (a < b + 464 + 4 * (n % 16) ∨ b + 464 + 4 * (n % 16) + 4 ≤ a) → σ' a = σ a) : LC b σ' (n + 1) (pu g x0 x1 x2 x3) := by
  intro i w hi hw
  unfold pu
  by_cases e : i = 0
  · subst e
    simp only [if_true]
    have e1 : (n + 1 - 1 - 0) % 16 = n % 16 := by congr 1
    rw [e1]
    have : w = 0 ∨ w = 1 ∨ w = 2 ∨ w = 3 := by omega
    rcases this with rfl | rfl | rfl | rfl
    · simpa using h0
    · simpa using h1
    · simpa using h2
    · simpa using h3
  · rw [if_neg e, ← h (i - 1) w (by omega) hw]
    have e1 : n + 1 - 1 - i = n - 1 - (i - 1) := by omega
    rw [e1]
    exact f _ (by omega) (by omega) (by omega)
theorem LR.push {b n : Nat} {g : Nat → Nat → Int32} {σ1 σ' : Mem} {x0 x1 x2 x3 : Int32}
    (hm : σ1 (b + 10) = nI (min n 15) ∧ ∀ i w, i < min n 15 → w < 4 → σ1 (b + 464 + (4 * (min n 15 - 1 - i) + w)) = g i w)
    (hk : σ' (b + 10) = nI (min n 15 + 1)) (h0 : σ' (b + 464 + (4 * min n 15)) = x0) (h1 : σ' (b + 464 + (4 * min n 15 + 1)) = x1) (h2 : σ' (b + 464 + (4 * min n 15 + 2)) = x2) (h3 : σ' (b + 464 + (4 * min n 15 + 3)) = x3)
    (f : ∀ a, b + 464 ≤ a → a < b + 464 + 4 * min n 15 → σ' a = σ1 a) : LR b σ' (n + 1) (pu g x0 x1 x2 x3) := by
  have e16 : min (n + 1) 16 = min n 15 + 1 := by omega
  refine ⟨by rw [e16]; exact hk, fun i w hi hw => ?_⟩
  rw [e16] at hi ⊢
  unfold pu
  by_cases e : i = 0
  · subst e
    simp only [if_true]
    rw [show min n 15 + 1 - 1 - 0 = min n 15 from by omega]
    have : w = 0 ∨ w = 1 ∨ w = 2 ∨ w = 3 := by omega
    rcases this with rfl | rfl | rfl | rfl
    · simpa using h0
    · simpa using h1
    · simpa using h2
    · simpa using h3
  · rw [if_neg e, ← hm.2 (i - 1) w (by omega) hw, show min n 15 + 1 - 1 - i = min n 15 - 1 - (i - 1) from by omega]
    exact f _ (by omega) (by omega)
/-- mesh, drawn, lost, log -/
abbrev TT : Type := (Nat → Int32) × Nat × Int32 × (Nat → Nat → Int32)
def nt1 (ls node : Nat) (s : TT) : TT :=
  if (tb (s.1 1) node && !decide (s.1 (72 + node) = 0)) = true then
    (upd (upd (flS node false true ls (rnw s.1 node) s.2.1 s.2.2.1).2.2.2.2.1 7 ((flS node false true ls (rnw s.1 node) s.2.1 s.2.2.1).2.2.2.2.1 7 + nI 1)) 8
       ((flS node false true ls (rnw s.1 node) s.2.1 s.2.2.1).2.2.2.2.1 8 + nI (flS node false true ls (rnw s.1 node) s.2.1 s.2.2.1).2.1),
     (flS node false true ls (rnw s.1 node) s.2.1 s.2.2.1).2.2.2.2.2.1, (flS node false true ls (rnw s.1 node) s.2.1 s.2.2.1).2.2.2.2.2.2,
     pu s.2.2.2 (s.1 2) (nI node) (nI (pc (flS node false true ls (rnw s.1 node) s.2.1 s.2.2.1).2.2.2.1)) (nI (flS node false true ls (rnw s.1 node) s.2.1 s.2.2.1).2.1))
  else s
def ntN (ls : Nat) (s : TT) : Nat → TT
  | 0 => s
  | n + 1 => nt1 ls n (ntN ls s n)
def hl1 (ls : Nat) (μh : Nat → Int32) (i j : Nat) (s : TT) : TT := if (!decide (i = j) && tb (s.1 1) i) = true then (hrS μh s.1 i j (hrH s.1 i j s.2.1 ls), hrD s.1 i j s.2.1, hrL s.1 i j s.2.1 ls s.2.2.1, s.2.2.2) else s
def hlJ (ls : Nat) (μh : Nat → Int32) (i : Nat) (s : TT) : Nat → TT
  | 0 => s
  | j + 1 => hl1 ls μh i j (hlJ ls μh i s j)
def hlI (ls : Nat) (μh : Nat → Int32) (N : Nat) (s : TT) : Nat → TT
  | 0 => s
  | i + 1 => hlJ ls μh i (hlI ls μh N s i) N
/-- relays chosen by those below k; topologies of those below m are a tick older -/
def rlP (μ : Nat → Int32) (k m : Nat) : Nat → Int32 := fun a =>
  if 48 ≤ a ∧ a < 48 + k ∧ tb (μ 1) (a - 48) = true then chos μ (a - 48) else
  if 400 ≤ a ∧ a < 400 + m ∧ tb (μ 1) ((a - 400) / 8) = true then nI (nA μ a - 1) else μ a
def esP (μ : Nat → Int32) (m : Nat) : Nat → Int32 := fun a => if 208 ≤ a ∧ a < 208 + m then nI (nA μ a - 1) else μ a
def du (μ : Nat → Int32) : Bool := decide (μ 2 - μ 2 / μ 3 * μ 3 = 0)
def tkA (ls : Nat) (s : TT) : TT := hlI ls (upd s.1 2 (s.1 2 + nI 1)) (nN s.1) (upd s.1 2 (s.1 2 + nI 1), s.2) (nN s.1)
def tkC (ls : Nat) (s : TT) : TT := (rlP (tkA ls s).1 (nN s.1) 64, (tkA ls s).2)
def tkD (ls : Nat) (s : TT) : TT := if du (tkC ls s).1 = true then ntN ls (tkC ls s) (nN s.1) else tkC ls s
def tkF (ls : Nat) (s : TT) : TT := (esP (tkD ls s).1 64, (tkD ls s).2)
theorem mkS_congr {f g : Nat → Bool} : ∀ {n : Nat}, (∀ j, j < n → f j = g j) → mkS f n = mkS g n
  | 0, _ => rfl
  | n + 1, h => by
    simp only [mkS]
    rw [mkS_congr (n := n) (fun j hj => h j (by omega)), h n (by omega)]
theorem orS_congr {f g : Nat → Int32} : ∀ {n : Nat}, (∀ j, j < n → f j = g j) → orS f n = orS g n
  | 0, _ => rfl
  | n + 1, h => by
    simp only [orS]
    rw [orS_congr (n := n) (fun j hj => h j (by omega)), h n (by omega)]
/-- alike where choices look -/
def Ck (μ μ' : Nat → Int32) : Prop := nN μ' = nN μ ∧ nN μ ≤ 8 ∧ ∀ a, (16 ≤ a ∧ a < 24) ∨ (64 ≤ a ∧ a < 72) ∨ (144 ≤ a ∧ a < 208) → μ' a = μ a
section CK
variable {μ μ' : Nat → Int32} {i : Nat}
theorem ck_wil (h : Ck μ μ') (hi : i < 8) : wil μ' i = wil μ i := by
  obtain ⟨h0, h8, h⟩ := h
  unfold wil
  rw [h0]
  apply mkS_congr
  intro j hj
  unfold nA
  rw [h (64 + i) (by omega), h (16 + j) (by omega)]
theorem ck_kno (h : Ck μ μ') (hi : i < 8) (s : Int32) : kno μ' i s = kno μ i s := by
  obtain ⟨h0, h8, h⟩ := h
  unfold kno
  rw [h0]
  apply orS_congr
  intro j hj
  rw [h (144 + (8 * i + j)) (by omega)]
theorem ck_bhd (h : Ck μ μ') (hi : i < 8) : bhd μ' i = bhd μ i := by
  unfold bhd
  rw [ck_kno h hi, ck_wil h hi, h.2.2 (64 + i) (by omega)]
theorem ck_alo (h : Ck μ μ') (hi : i < 8) (s b : Int32) : alo μ' i s b = alo μ i s b := by
  have h0 := h.1
  have h8 := h.2.1
  unfold alo
  rw [h0]
  apply mkS_congr
  intro j hj
  rw [h.2.2 (144 + (8 * i + j)) (by omega), ck_kno h hi]
theorem ck_ful (h : Ck μ μ') (hi : i < 8) : ∀ n, n ≤ nN μ → ful μ' i n = ful μ i n
  | 0, _ => by
    simp only [ful]
    rw [ck_alo h hi, ck_wil h hi, ck_bhd h hi]
  | n + 1, hn => by
    have h8 := h.2.1
    simp only [ful]
    rw [ck_ful h hi n (by omega), ck_wil h hi]
    unfold nA
    rw [h.2.2 (16 + n) (by omega)]
theorem ck_rnk (h : Ck μ μ') (hi : i < 8) (l : Int32) {j : Nat} (hj : j < 8) : rnk μ' i l j = rnk μ i l j := by
  unfold rnk nA
  rw [h.2.2 (16 + j) (by omega), h.2.2 (144 + (8 * i + j)) (by omega)]
theorem ck_bst (h : Ck μ μ') (hi : i < 8) (c l : Int32) : ∀ n, n ≤ nN μ → bst μ' i c l n = bst μ i c l n
  | 0, _ => rfl
  | n + 1, hn => by
    have h8 := h.2.1
    simp only [bst]
    rw [ck_bst h hi c l n (by omega), h.2.2 (144 + (8 * i + n)) (by omega)]
    split
    · cases e : bst μ i c l n with
      | none => rfl
      | some b =>
        have hb := (bst_some e).1
        simp only
        rw [ck_rnk h hi l (by omega), ck_rnk h hi l (by omega)]
    · rfl
theorem ck_opn (h : Ck μ μ') (hi : i < 8) (s : Int32) : opn μ' i s = opn μ i s := by
  unfold opn
  rw [ck_bhd h hi, ck_kno h hi]
theorem ck_pkB (h : Ck μ μ') (hi : i < 8) (s : Int32) : pkB μ' i s = pkB μ i s := by
  unfold pkB
  rw [ck_wil h hi, ck_opn h hi, h.1, ck_bst h hi _ _ _ (Nat.le_refl _)]
theorem ck_pkS (h : Ck μ μ') (hi : i < 8) : ∀ n, pkS μ' i n = pkS μ i n
  | 0 => by
    simp only [pkS]
    rw [h.1, ck_ful h hi _ (Nat.le_refl _)]
  | n + 1 => by
    simp only [pkS]
    rw [ck_pkS h hi n, ck_pkB h hi]
theorem ck_dS (h : Ck μ μ') (hi : i < 8) (wl : Nat) : ∀ n, n ≤ nN μ → ∀ s, dS μ' i wl n s = dS μ i wl n s
  | 0, _, _ => rfl
  | n + 1, hn, s => by
    have h8 := h.2.1
    simp only [dS]
    rw [ck_dS h hi wl n (by omega), ck_bhd h hi, ck_kno h hi]
    unfold nA
    rw [h.2.2 (16 + n) (by omega)]
theorem ck_dW (h : Ck μ μ') (hi : i < 8) (s : Int32) : ∀ n, dW μ' i s n = dW μ i s n
  | 0 => rfl
  | n + 1 => by
    simp only [dW]
    rw [ck_dW h hi s n, h.1, ck_dS h hi n _ (Nat.le_refl _)]
theorem ck_chos (h : Ck μ μ') (hi : i < 8) : chos μ' i = chos μ i := by
  unfold chos
  rw [ck_pkS h hi, ck_dW h hi]
end CK
theorem rl_fix {μ : Nat → Int32} {k m a : Nat} (h : a < 48 ∨ (56 ≤ a ∧ a < 400)) (hk : k ≤ 8) : rlP μ k m a = μ a := by
  unfold rlP
  rw [if_neg (by omega), if_neg (by omega)]
theorem rl_ck {μ : Nat → Int32} {k m : Nat} (h : MI μ) (hk : k ≤ 8) : Ck μ (rlP μ k m) := by
  refine ⟨?_, mi_8 h, fun a ha => rl_fix (by omega) hk⟩
  unfold nN
  rw [rl_fix (by omega) hk]
theorem rl_0 (μ : Nat → Int32) : rlP μ 0 0 = μ := by
  funext a
  unfold rlP
  rw [if_neg (by omega), if_neg (by omega)]
/-- node k has chosen -/
theorem rl_c {μ : Nat → Int32} {k m : Nat} (h : tb (μ 1) k = true) : upd (rlP μ k m) (48 + k) (chos μ k) = rlP μ (k + 1) m := by
  funext a
  unfold rlP upd
  dsimp only
  by_cases e : a = 48 + k
  · subst e
    rw [if_pos rfl, if_pos ⟨by omega, by omega, by rw [show 48 + k - 48 = k from by omega]; exact h⟩, show 48 + k - 48 = k from by omega]
  · rw [if_neg e]
    by_cases c : 48 ≤ a ∧ a < 48 + k ∧ tb (μ 1) (a - 48) = true
    · have c' : 48 ≤ a ∧ a < 48 + (k + 1) ∧ tb (μ 1) (a - 48) = true := ⟨c.1, by omega, c.2.2⟩
      rw [if_pos c, if_pos c']
    · have c' : ¬ (48 ≤ a ∧ a < 48 + (k + 1) ∧ tb (μ 1) (a - 48) = true) := fun q => c ⟨q.1, by omega, q.2.2⟩
      rw [if_neg c, if_neg c']
theorem rl_cn {μ : Nat → Int32} {k m : Nat} (h : tb (μ 1) k = false) : rlP μ k m = rlP μ (k + 1) m := by
  funext a
  unfold rlP
  by_cases c : 48 ≤ a ∧ a < 48 + k ∧ tb (μ 1) (a - 48) = true
  · rw [if_pos c, if_pos ⟨c.1, by omega, c.2.2⟩]
  · have c' : ¬ (48 ≤ a ∧ a < 48 + (k + 1) ∧ tb (μ 1) (a - 48) = true) := fun q => by
      by_cases e : a = 48 + k
      · have q3 := q.2.2
        rw [e, show 48 + k - 48 = k from by omega, h] at q3
        cases q3
      · exact c ⟨q.1, by omega, q.2.2⟩
    rw [if_neg c, if_neg c']
/-- nothing is older where it is off, or there was none -/
theorem rl_an {μ : Nat → Int32} {k m : Nat} (hk : k ≤ 8) (h : tb (μ 1) (m / 8) = false ∨ μ (400 + m) = nI 0) : rlP μ k m = rlP μ k (m + 1) := by
  funext a
  unfold rlP
  by_cases c : 48 ≤ a ∧ a < 48 + k ∧ tb (μ 1) (a - 48) = true
  · rw [if_pos c, if_pos c]
  · rw [if_neg c, if_neg c]
    by_cases c2 : 400 ≤ a ∧ a < 400 + m ∧ tb (μ 1) ((a - 400) / 8) = true
    · rw [if_pos c2, if_pos ⟨c2.1, by omega, c2.2.2⟩]
    · rw [if_neg c2]
      by_cases c3 : 400 ≤ a ∧ a < 400 + (m + 1) ∧ tb (μ 1) ((a - 400) / 8) = true
      · rw [if_pos c3]
        have e : a = 400 + m := by
          by_cases q : a < 400 + m
          · exact absurd ⟨c3.1, q, c3.2.2⟩ c2
          · omega
        rcases h with h | h
        · have q := c3.2.2
          rw [e, show (400 + m - 400) / 8 = m / 8 from by omega, h] at q
          cases q
        · rw [e, h, show nA μ (400 + m) = 0 from nA_nI (by decide) h]
      · rw [if_neg c3]
/-- all that are not there are off -/
theorem rl_skip {μ : Nat → Int32} {k m : Nat} (hk : k ≤ 8) : ∀ n, (∀ x, m ≤ x → x < m + n → tb (μ 1) (x / 8) = false ∨ μ (400 + x) = nI 0) → rlP μ k m = rlP μ k (m + n)
  | 0, _ => rfl
  | n + 1, h => by rw [rl_skip hk n (fun x h1 h2 => h x h1 (by omega)), ← Nat.add_assoc, rl_an hk (h (m + n) (by omega) (by omega))]
theorem rl_mi {μ : Nat → Int32} {m : Nat} (h : MI μ) (hm : m ≤ 64) : MI (rlP μ (nN μ) m) := by
  have h8 := mi_8 h
  have eN : nN (rlP μ (nN μ) m) = nN μ := (rl_ck h h8).1
  refine mi_of (by rw [rl_fix (by omega) h8, eN]; exact mi_0 h) (by rw [eN]; exact h8) (by unfold nA; rw [rl_fix (by omega) h8, rl_fix (by omega) h8]; exact ml_6 h) fun a ha => ?_
  rw [eN]
  unfold rlP
  split
  · exact pw_set (by omega) (by omega) (by omega) (fun _ _ => sb_chos h)
  · split
    · rename_i c
      have e := mb_400 h (j := a - 400) (by omega)
      rw [show 400 + (a - 400) = a from by omega] at e
      refine pw_num (n := nA μ a - 1) ?_ (by omega) (fun h1 h2 h3 => ?_)
      · have := nb400 (j := a - 400) (by omega)
        rw [show 400 + (a - 400) = a from by omega] at this
        rw [this]
        omega
      · have h4 := ml_left h (i := (a - 400) / 8) (j := (a - 400) % 8) (by omega) h3 (by omega)
        rw [show 400 + (8 * ((a - 400) / 8) + (a - 400) % 8) = a from by omega] at h4
        rw [nA_nI (by decide) h4]
    · exact mi_pw h a
theorem es_mi {μ : Nat → Int32} {m : Nat} (h : MI μ) (hm : m ≤ 64) : MI (esP μ m) := by
  have fx : ∀ a, a < 208 → esP μ m a = μ a := fun a ha => by
    unfold esP
    rw [if_neg (by omega)]
  have eN : nN (esP μ m) = nN μ := by
    unfold nN
    rw [fx 0 (by omega)]
  refine mi_of (by rw [fx 0 (by omega), eN]; exact mi_0 h) (by rw [eN]; exact mi_8 h) (by unfold nA; rw [fx 5 (by omega), fx 6 (by omega)]; exact ml_6 h) fun a ha => ?_
  rw [eN]
  unfold esP
  split
  · rename_i c
    have e := mb_208 h (j := a - 208) (by omega)
    have e2 := nb208 (j := a - 208) (by omega)
    rw [show 208 + (a - 208) = a from by omega] at e e2
    exact pw_num (by rw [e2]; omega) (by omega) (by omega)
  · exact mi_pw h a
theorem rn_fix {μ : Nat → Int32} {node a : Nat} (h : a < 32 ∨ 48 ≤ a) (hn : node < 8) : rnw μ node a = μ a := by
  unfold rnw
  rw [upd_ne (by omega)]
  split
  · rfl
  · rw [upd_ne (by omega)]
theorem rn_mi {μ : Nat → Int32} {node : Nat} (h : MI μ) (hn : node < 8) : MI (rnw μ node) := by
  unfold rnw
  refine mi_upd ?_ (by omega) (by omega) (pw_free (by omega))
  split
  · exact h
  · exact mi_upd h (by omega) (by omega) (pw_num (by rw [nb32 hn]; omega) (by omega) (by omega))
theorem rn_N {μ : Nat → Int32} {node : Nat} (hn : node < 8) : nN (rnw μ node) = nN μ := by
  unfold nN
  rw [rn_fix (by omega) hn]
/-- one notice -/
theorem nt_fix {ls node : Nat} {s : TT} (h : MI s.1) (hn : node < nN s.1) : ∀ a, a < 272 → (a < 7 ∨ 10 ≤ a) → (a < 32 ∨ 48 ≤ a) → (nt1 ls node s).1 a = s.1 a := by
  have h8 := mi_8 h
  intro a h1 h2 h3
  unfold nt1
  split
  · rename_i c
    simp only [Bool.and_eq_true] at c
    dsimp only
    rw [upd_ne (by omega), upd_ne (by omega), (FW.all (rn_mi h (by omega)) (by rw [rn_N (by omega)]; exact hn) (by rw [rn_fix (by omega) (by omega)]; exact c.1)).2.1 a h1 (by omega), rn_fix h3 (by omega)]
  · rfl
theorem nt_N {ls node : Nat} {s : TT} (h : MI s.1) (hn : node < nN s.1) : nN (nt1 ls node s).1 = nN s.1 := by
  unfold nN
  rw [nt_fix h hn 0 (by omega) (by omega) (by omega)]
theorem nt_mi {ls node : Nat} {s : TT} (h : MI s.1) (hn : node < nN s.1) : MI (nt1 ls node s).1 := by
  have h8 := mi_8 h
  unfold nt1
  split
  · rename_i c
    simp only [Bool.and_eq_true] at c
    have hW := FW.all (ls := ls) (d := s.2.1) (bl := false) (td := true) (lo := s.2.2.1) (rn_mi h (node := node) (by omega)) (by rw [rn_N (by omega)]; exact hn) (by rw [rn_fix (by omega) (by omega)]; exact c.1)
    exact mi_upd (mi_upd hW.1 (by omega) (by omega) (pw_free (by omega))) (by omega) (by omega) (pw_free (by omega))
  · exact h
theorem ntN_all {ls : Nat} {s : TT} (h : MI s.1) : ∀ n, n ≤ nN s.1 → MI (ntN ls s n).1 ∧ nN (ntN ls s n).1 = nN s.1 ∧ ∀ a, a < 272 → (a < 7 ∨ 10 ≤ a) → (a < 32 ∨ 48 ≤ a) → (ntN ls s n).1 a = s.1 a
  | 0, _ => ⟨h, rfl, fun _ _ _ _ => rfl⟩
  | n + 1, hn => by
    obtain ⟨h1, h2, h3⟩ := ntN_all h n (by omega)
    refine ⟨nt_mi h1 (by omega), by rw [ntN, nt_N h1 (by omega)]; exact h2, fun a q1 q2 q3 => ?_⟩
    rw [ntN, nt_fix h1 (by omega) a q1 q2 q3]
    exact h3 a q1 q2 q3
theorem hl_mi {ls i j : Nat} {μh : Nat → Int32} {s : TT} (h : MI s.1) (hh : MI μh) (hN : nN μh = nN s.1) (hi : i < nN s.1) (hj : j < nN s.1) : MI (hl1 ls μh i j s).1 ∧ nN (hl1 ls μh i j s).1 = nN s.1 ∧ (hl1 ls μh i j s).1 1 = s.1 1 := by
  have h8 := mi_8 h
  unfold hl1
  split
  · rename_i c
    simp only [Bool.and_eq_true, Bool.not_eq_true', decide_eq_false_iff_not] at c
    have e : ∀ a, a < 2 → hrS μh s.1 i j (hrH s.1 i j s.2.1 ls) a = s.1 a := fun a ha => by
      unfold hrS
      repeat (first | rw [if_neg (by omega)] | rfl)
    refine ⟨hr_mi h hN hh hi hj c.1, ?_, e 1 (by omega)⟩
    unfold nN
    dsimp only
    rw [e 0 (by omega)]
  · exact ⟨h, rfl, rfl⟩
theorem hlJ_all {ls i : Nat} {μh : Nat → Int32} {s : TT} (h : MI s.1) (hh : MI μh) (hN : nN μh = nN s.1) (hi : i < nN s.1) : ∀ n, n ≤ nN s.1 → MI (hlJ ls μh i s n).1 ∧ nN (hlJ ls μh i s n).1 = nN s.1 ∧ (hlJ ls μh i s n).1 1 = s.1 1
  | 0, _ => ⟨h, rfl, rfl⟩
  | n + 1, hn => by
    obtain ⟨h1, h2, h3⟩ := hlJ_all (ls := ls) h hh hN hi n (by omega)
    obtain ⟨q1, q2, q3⟩ := hl_mi (ls := ls) (i := i) (j := n) h1 hh (by rw [h2]; exact hN) (by omega) (by omega)
    exact ⟨q1, by rw [hlJ, q2, h2], by rw [hlJ, q3, h3]⟩
theorem hlI_all {ls N : Nat} {μh : Nat → Int32} {s : TT} (h : MI s.1) (hh : MI μh) (hN : nN μh = nN s.1) (hNN : N = nN s.1) : ∀ n, n ≤ N → MI (hlI ls μh N s n).1 ∧ nN (hlI ls μh N s n).1 = nN s.1 ∧ (hlI ls μh N s n).1 1 = s.1 1
  | 0, _ => ⟨h, rfl, rfl⟩
  | n + 1, hn => by
    obtain ⟨h1, h2, h3⟩ := hlI_all (ls := ls) h hh hN hNN n (by omega)
    obtain ⟨q1, q2, q3⟩ := hlJ_all (ls := ls) (i := n) h1 hh (by rw [h2]; exact hN) (by omega) N (by omega)
    exact ⟨q1, by rw [hlI, q2, h2], by rw [hlI, q3, h3]⟩
theorem tk2_mi {μ : Nat → Int32} {x : Int32} (h : MI μ) : MI (upd μ 2 x) := mi_upd h (by omega) (by omega) (pw_free (by omega))
theorem tk2_N {μ : Nat → Int32} {x : Int32} : nN (upd μ 2 x) = nN μ := nN_upd (by omega)
theorem tkA_all {ls : Nat} {s : TT} (h : MI s.1) : MI (tkA ls s).1 ∧ nN (tkA ls s).1 = nN s.1 := by
  have h2 := tk2_mi (x := s.1 2 + nI 1) h
  have h3 := hlI_all (ls := ls) (N := nN s.1) (μh := upd s.1 2 (s.1 2 + nI 1)) (s := (upd s.1 2 (s.1 2 + nI 1), s.2)) h2 h2 rfl tk2_N.symm (nN s.1) (Nat.le_refl _)
  exact ⟨h3.1, h3.2.1.trans tk2_N⟩
theorem tkC_all {ls : Nat} {s : TT} (h : MI s.1) : MI (tkC ls s).1 ∧ nN (tkC ls s).1 = nN s.1 := by
  obtain ⟨h1, h2⟩ := tkA_all (ls := ls) h
  unfold tkC
  rw [← h2]
  exact ⟨rl_mi h1 (by omega), (rl_ck h1 (mi_8 h1)).1⟩
theorem tkD_all {ls : Nat} {s : TT} (h : MI s.1) : MI (tkD ls s).1 ∧ nN (tkD ls s).1 = nN s.1 := by
  obtain ⟨h1, h2⟩ := tkC_all (ls := ls) h
  unfold tkD
  split
  · obtain ⟨q1, q2, q3⟩ := ntN_all (ls := ls) h1 (nN s.1) (by omega)
    exact ⟨q1, q2.trans h2⟩
  · exact ⟨h1, h2⟩
theorem tkF_all {ls : Nat} {s : TT} (h : MI s.1) : MI (tkF ls s).1 ∧ nN (tkF ls s).1 = nN s.1 := by
  obtain ⟨h1, h2⟩ := tkD_all (ls := ls) h
  refine ⟨es_mi h1 (Nat.le_refl _), ?_⟩
  unfold tkF nN esP
  simp only
  rw [if_neg (by omega)]
  exact h2
theorem nI_p1 {a : Nat} : nI (a + 1) = nI a + nI 1 := by
  rw [nI_succ]
  rfl
