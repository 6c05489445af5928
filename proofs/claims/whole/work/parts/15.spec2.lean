/-! ticks: losses, hellos, topologies, floods, notices -/
def drw (d : Nat) : Nat := (d * 4561 + 51349) % 243000
def lsB (d ls : Nat) : Bool := decide (drw d * 16 / 243000 < ls)
def lsN (d ls : Nat) (lo : Int32) : Int32 := if lsB d ls then lo + nI 1 else lo
theorem drw_lt (d : Nat) : drw d < 243000 := Nat.mod_lt _ (by decide)
theorem lN_div {a b : Nat} (ha : a < 2 ^ 62) (hb : 0 < b) (hb' : b < 2 ^ 31) : lN a / lN b = lN (a / b) := by
  have q : ∀ n, n < 2 ^ 62 → (lN n).toInt = (n : Int) := fun n hn => lg_ofNat_toInt (by omega)
  apply Int64.toInt_inj.mp
  rw [Int64.toInt_div, q a ha, q b (by omega), q (a / b) (Nat.lt_of_le_of_lt (Nat.div_le_self _ _) ha)]
  have e : ((a : Int)).tdiv b = ((a / b : Nat) : Int) := rfl
  rw [e]
  have hd := Nat.div_le_self a b
  generalize a / b = c at hd
  apply Int.bmod_eq_of_le <;> omega
theorem nI_lg {n : Nat} (h : n < 2 ^ 31) : (nI n).toInt64 = lN n := by
  apply Int64.toInt_inj.mp
  rw [Int32.toInt_toInt64, nI_toInt h, lN_toInt h]
set_option maxRecDepth 100000 in
theorem draw_l {d : Nat} (h : d < 243000) : ((nI d).toInt64 * lN 4561 + lN 51349 - ((nI d).toInt64 * lN 4561 + lN 51349) / lN 243000 * lN 243000).toInt32 = nI (drw d) := by
  rw [nI_lg (by omega), lN_mul, lN_add, lN_div (by omega) (by decide) (by decide), lN_mul, lN_sub (Nat.div_mul_le_self _ _), lN_i]
  congr 1
  unfold drw
  generalize d * 4561 + 51349 = z
  have h1 := Nat.mod_add_div z 243000
  have h2 : z / 243000 * 243000 = 243000 * (z / 243000) := Nat.mul_comm _ _
  omega
set_option maxRecDepth 100000 in
theorem draw_m {d : Nat} (h : d < 243000) : ((nI d).toInt64 * (nI 16).toInt64 / lN 243000).toInt32 = nI (d * 16 / 243000) := by
  rw [nI_lg (by omega), nI_lg (by decide), lN_mul, lN_div (by omega) (by decide) (by decide), lN_i]
/-- the class's losses -/
def CL (σ : Mem) (d ls : Nat) (lo : Int32) : Prop := σ 14900 = nI d ∧ σ 14901 = nI ls ∧ σ 14902 = lo ∧ d < 243000 ∧ ls ≤ 16
/-- the reference's -/
def RLs (σ : Mem) (d ls : Nat) (lo : Int32) : Prop := (σ 4901 = -1 ∧ ls = 0) ∨ (σ 4900 = nI d ∧ σ 4901 = nI ls ∧ σ 4902 = lo ∧ d < 243000 ∧ ls ≤ 16)
theorem CL.fr {σ σ' : Mem} {d ls : Nat} {lo : Int32} (h : CL σ d ls lo) (h0 : σ' 14900 = σ 14900) (h1 : σ' 14901 = σ 14901) (h2 : σ' 14902 = σ 14902) : CL σ' d ls lo := by
  unfold CL
  rw [h0, h1, h2]
  exact h
theorem RLs.fr {σ σ' : Mem} {d ls : Nat} {lo : Int32} (h : RLs σ d ls lo) (h0 : σ' 4900 = σ 4900) (h1 : σ' 4901 = σ 4901) (h2 : σ' 4902 = σ 4902) : RLs σ' d ls lo := by
  unfold RLs
  rw [h0, h1, h2]
  exact h
/-! what holds of a picture, cell by cell -/
def PW (N a : Nat) (x : Int32) : Prop :=
  (nb a ≠ 0 → ∃ n, n < nb a ∧ x = nI n) ∧ (3 ≤ a → a ≤ 5 → x ≠ nI 0) ∧ (24 ≤ a → a < 32 → tb x (a - 24) = false) ∧ (64 ≤ a → a < 72 → tb x (a - 64) = false ∧ sb N x) ∧
  (a = 1 → sb N x) ∧ (48 ≤ a → a < 56 → sb 8 x) ∧ (144 ≤ a → a < 208 → sb 8 x) ∧ (400 ≤ a → a < 464 → N ≤ (a - 400) % 8 → x = nI 0)
theorem nb_big {a : Nat} (h : nb a ≠ 0) : nb a ≤ 1000 := by
  revert h
  unfold nb
  repeat' split
  all_goals (intro h; omega)
theorem nA_nI {μ : Nat → Int32} {a n : Nat} (hn : n < 2 ^ 31) (e : μ a = nI n) : nA μ a = n := by
  unfold nA
  rw [e, nI_clamp hn]
theorem mi_pw {μ : Nat → Int32} (h : MI μ) (a : Nat) : PW (nN μ) a (μ a) := by
  refine ⟨fun ha => ⟨nA μ a, mi_b h ha, mi_a h ha⟩, fun h1 h2 e => ?_, fun h1 h2 => ?_, fun h1 h2 => ?_, fun e => by subst e; exact ms_on h, fun h1 h2 => ?_, fun h1 h2 => ?_, fun h1 h2 h3 => ?_⟩
  · have e0 : nA μ a = 0 := nA_nI (by decide) e
    have l3 := ml_3 h
    have l4 := ml_4 h
    have l5 := ml_5 h
    have : a = 3 ∨ a = 4 ∨ a = 5 := by omega
    rcases this with rfl | rfl | rfl <;> omega
  · have := (mi_self h (i := a - 24) (by omega)).1
    rwa [show 24 + (a - 24) = a from by omega] at this
  · have := (mi_self h (i := a - 64) (by omega)).2
    have h3 := ms_near h (i := a - 64) (by omega)
    rw [show 64 + (a - 64) = a from by omega] at this h3
    exact ⟨this, h3⟩
  · have h3 := ms_rel h (i := a - 48) (by omega)
    rwa [show 48 + (a - 48) = a from by omega] at h3
  · have h3 := ms_kno h (k := a - 144) (by omega)
    rwa [show 144 + (a - 144) = a from by omega] at h3
  · have h4 := ml_left h (i := (a - 400) / 8) (j := (a - 400) % 8) (by omega) h3 (by omega)
    rwa [show 400 + (8 * ((a - 400) / 8) + (a - 400) % 8) = a from by omega] at h4
theorem mi_of {μ : Nat → Int32} (h0 : μ 0 = nI (nN μ)) (h8 : nN μ ≤ 8) (h65 : nA μ 6 ≤ nA μ 5) (hp : ∀ a, a ≠ 0 → PW (nN μ) a (μ a)) : MI μ := by
  have num : ∀ a, nb a ≠ 0 → μ a = nI (nA μ a) ∧ nA μ a < nb a := fun a ha => by
    have ha0 : a ≠ 0 := by intro e; subst e; exact ha (by decide)
    obtain ⟨n, hn, e⟩ := (hp a ha0).1 ha
    have hb := nb_big ha
    have e2 : nA μ a = n := nA_nI (by omega) e
    rw [e2]
    exact ⟨e, hn⟩
  have pos : ∀ a, 3 ≤ a → a ≤ 5 → 1 ≤ nA μ a := fun a h1 h2 => by
    have hx := (hp a (by omega)).2.1 h1 h2
    have hb : nb a ≠ 0 := by
      have : a = 3 ∨ a = 4 ∨ a = 5 := by omega
      rcases this with rfl | rfl | rfl <;> decide
    have e := (num a hb).1
    by_cases q : 1 ≤ nA μ a
    · exact q
    · exfalso
      apply hx
      rw [e, show nA μ a = 0 from by omega]
  refine ⟨⟨h0, h8⟩, num, ⟨pos 3 (by omega) (by omega), pos 4 (by omega) (by omega), pos 5 (by omega) (by omega), h65⟩, fun i hi => ⟨?_, ?_⟩, ⟨(hp 1 (by decide)).2.2.2.2.1 rfl, fun i hi => ⟨?_, ?_⟩, fun k hk => ?_⟩, fun i j hi hj hj8 => ?_⟩
  · have := (hp (24 + i) (by omega)).2.2.1 (by omega) (by omega)
    rwa [show 24 + i - 24 = i from by omega] at this
  · have := ((hp (64 + i) (by omega)).2.2.2.1 (by omega) (by omega)).1
    rwa [show 64 + i - 64 = i from by omega] at this
  · exact ((hp (64 + i) (by omega)).2.2.2.1 (by omega) (by omega)).2
  · exact (hp (48 + i) (by omega)).2.2.2.2.2.1 (by omega) (by omega)
  · exact (hp (144 + k) (by omega)).2.2.2.2.2.2.1 (by omega) (by omega)
  · exact (hp (400 + (8 * i + j)) (by omega)).2.2.2.2.2.2.2 (by omega) (by omega) (by omega)
theorem nN_upd {μ : Nat → Int32} {a : Nat} {x : Int32} (ha : a ≠ 0) : nN (upd μ a x) = nN μ := by
  unfold nN
  rw [upd_ne (Ne.symm ha)]
theorem nA_upd {μ : Nat → Int32} {a b : Nat} {x : Int32} (ha : b ≠ a) : nA (upd μ a x) b = nA μ b := by
  unfold nA
  rw [upd_ne ha]
theorem nA_same {μ : Nat → Int32} {a n : Nat} (hn : n < 2 ^ 31) : nA (upd μ a (nI n)) a = n := nA_nI hn upd_eq
/-- one cell more is written -/
theorem mi_upd {μ : Nat → Int32} {a : Nat} {x : Int32} (h : MI μ) (ha : a ≠ 0) (h56 : a ≠ 5 ∧ a ≠ 6) (hp : PW (nN μ) a x) : MI (upd μ a x) := by
  refine mi_of ?_ ?_ ?_ fun b hb => ?_
  · rw [nN_upd ha, upd_ne (Ne.symm ha)]
    exact mi_0 h
  · rw [nN_upd ha]
    exact mi_8 h
  · rw [nA_upd (Ne.symm h56.2), nA_upd (Ne.symm h56.1)]
    exact ml_6 h
  · rw [nN_upd ha]
    by_cases e : b = a
    · subst e
      rw [upd_eq]
      exact hp
    · rw [upd_ne e]
      exact mi_pw h b
theorem pw_free {N a : Nat} {x : Int32} (h : a = 2 ∨ (7 ≤ a ∧ a < 16) ∨ (40 ≤ a ∧ a < 48) ∨ (56 ≤ a ∧ a < 64) ∨ (72 ≤ a ∧ a < 80) ∨ (272 ≤ a ∧ a < 336)) : PW N a x := by
  have e : nb a = 0 := by
    unfold nb
    repeat (first | rw [if_neg (by omega)] | rfl)
  exact ⟨fun q => absurd e q, fun _ _ => by omega, fun _ _ => by omega, fun _ _ => by omega, fun _ => by omega, fun _ _ => by omega, fun _ _ => by omega, fun _ _ => by omega⟩
theorem pw_num {N a n : Nat} (hn : n < nb a) (h35 : 3 ≤ a → a ≤ 5 → 0 < n) (h400 : 400 ≤ a → a < 464 → N ≤ (a - 400) % 8 → n = 0) : PW N a (nI n) := by
  have hb : nb a ≠ 0 := by omega
  have hr : (3 ≤ a ∧ a ≤ 6) ∨ (16 ≤ a ∧ a < 24) ∨ (32 ≤ a ∧ a < 40) ∨ (80 ≤ a ∧ a < 144) ∨ (208 ≤ a ∧ a < 272) ∨ (336 ≤ a ∧ a < 464) := by
    revert hb
    unfold nb
    repeat' split
    all_goals (intro hb; omega)
  have hl := nb_big hb
  refine ⟨fun _ => ⟨n, hn, rfl⟩, fun h1 h2 e => ?_, fun _ _ => by omega, fun _ _ => by omega, fun _ => by omega, fun _ _ => by omega, fun _ _ => by omega, fun h1 h2 h3 => by rw [h400 h1 h2 h3]⟩
  have := nI_inj (by omega) (by decide) e
  have := h35 h1 h2
  omega
theorem pw_set {N a : Nat} {x : Int32} (ha : (24 ≤ a ∧ a < 32) ∨ (48 ≤ a ∧ a < 56) ∨ (64 ≤ a ∧ a < 72) ∨ (144 ≤ a ∧ a < 208)) (h24 : a < 32 → tb x (a - 24) = false) (h64 : 64 ≤ a → a < 72 → tb x (a - 64) = false ∧ sb N x) (h8 : a < 64 ∨ 72 ≤ a → 32 ≤ a → sb 8 x) : PW N a x := by
  have e : nb a = 0 := by
    unfold nb
    repeat (first | rw [if_neg (by omega)] | rfl)
  exact ⟨fun q => absurd e q, fun _ _ => by omega, fun _ h => h24 h, fun h1 h2 => h64 h1 h2, fun _ => by omega, fun _ _ => h8 (by omega) (by omega), fun _ _ => h8 (by omega) (by omega), fun _ _ => by omega⟩
/-! what a hello proves -/
def hrU (μ : Nat → Int32) (i j : Nat) (h : Bool) : Bool := isU μ (prv (nA μ (80 + (8 * i + j))) h) (tb (μ (56 + i)) j)
def hrN (μh μ : Nat → Int32) (i j : Nat) (h : Bool) : Bool := hrU μ i j h && (if h = true then tb (μh (56 + j)) i else tb (μ (64 + i)) j)
def hrS (μh μ : Nat → Int32) (i j : Nat) (h : Bool) : Nat → Int32 := fun a =>
  if a = 80 + (8 * i + j) then nI (prv (nA μ (80 + (8 * i + j))) h)
  else if a = 56 + i then wth (μ (56 + i)) j (hrU μ i j h)
  else if a = 64 + i then wth (μ (64 + i)) j (hrN μh μ i j h)
  else if a = 144 + (8 * i + j) then (if (h || !hrN μh μ i j h) = true then (if hrN μh μ i j h = true then μh (64 + j) else nI 0) else μ a)
  else if a = 72 + i then (if (h || !hrN μh μ i j h) = true then wth (μ (72 + i)) j (hrN μh μ i j h && tb (μh (48 + j)) i) else μ a)
  else μ a
theorem prv_lt {q : Nat} {h : Bool} (hq : q < 1000) : prv q h < 1000 := by
  unfold prv
  split <;> omega
/-- told as a tick began: of all what they had -/
def HT (b : Nat) (μh : Nat → Int32) (σ : Mem) : Prop := ∀ j, j < 8 → σ (b + j) = μh (56 + j) ∧ σ (b + 10 + j) = μh (64 + j) ∧ σ (b + 20 + j) = μh (48 + j)
theorem hr_mi {μh μ : Nat → Int32} {i j : Nat} {h : Bool} (hI : MI μ) (hN : nN μh = nN μ) (hh : MI μh) (hi : i < nN μ) (hj : j < nN μ) (hij : i ≠ j) : MI (hrS μh μ i j h) := by
  have h8 := mi_8 hI
  have e0 : hrS μh μ i j h 0 = μ 0 := by
    unfold hrS
    repeat (first | rw [if_neg (by omega)] | rfl)
  have eN : nN (hrS μh μ i j h) = nN μ := by
    unfold nN
    rw [e0]
  have e5 : hrS μh μ i j h 5 = μ 5 := by
    unfold hrS
    repeat (first | rw [if_neg (by omega)] | rfl)
  have e6 : hrS μh μ i j h 6 = μ 6 := by
    unfold hrS
    repeat (first | rw [if_neg (by omega)] | rfl)
  refine mi_of (by rw [e0, eN]; exact mi_0 hI) (by rw [eN]; exact h8) (by unfold nA; rw [e5, e6]; exact ml_6 hI) fun a ha => ?_
  rw [eN]
  unfold hrS
  have hq := mb_80 hI (j := 8 * i + j) (by omega)
  split
  · rename_i e
    subst e
    exact pw_num (by rw [nb80 (by omega)]; exact prv_lt hq) (by omega) (by omega)
  · split
    · exact pw_free (by omega)
    · split
      · rename_i e
        subst e
        have hs := ms_near hI (i := i) (by omega)
        refine pw_set (by omega) (by omega) (fun _ _ => ⟨?_, sb_wth hs hj (by omega)⟩) (by omega)
        rw [show 64 + i - 64 = i from by omega, tb_wth (by omega) (by omega), if_neg hij]
        exact (mi_self hI (by omega)).2
      · split
        · rename_i e
          split
          · split
            · refine pw_set (by omega) (by omega) (by omega) (fun _ _ => sb_mono (Nat.le_trans (Nat.le_of_eq hN) h8) (ms_near hh (by omega)))
            · exact pw_set (by omega) (by omega) (by omega) (fun _ _ => sb_0)
          · exact mi_pw hI a
        · split
          · split
            · exact pw_free (by omega)
            · exact mi_pw hI a
          · exact mi_pw hI a
/-! what is older, topologies -/
def oldB (a b : Nat) : Bool := decide (1 ≤ (b + 16 - a) % 16) && decide ((b + 16 - a) % 16 ≤ 7)
theorem old_r : ∀ a, a < 16 → ∀ b, b < 16 → (nI b - nI a) &&& nI 15 = nI ((b + 16 - a) % 16) := by decide +kernel
theorem old_c : ∀ a, a < 16 → ∀ b, b < 16 → (nI b - nI a + nI 16) - (nI b - nI a + nI 16) / nI 16 * nI 16 = nI ((b + 16 - a) % 16) := by decide +kernel
def tkB (μ : Nat → Int32) (k n : Nat) : Bool := !(decide (0 < nA μ (400 + k)) && oldB n (nA μ (336 + k)))
def tkS (μ : Nat → Int32) (k n : Nat) (s : Int32) : Nat → Int32 :=
  if tkB μ k n = true then upd (upd (upd μ (272 + k) s) (336 + k) (nI n)) (400 + k) (μ 4) else upd μ 9 (μ 9 + nI 1)
theorem tk_fix {μ : Nat → Int32} {k n a : Nat} {s : Int32} (ha : a < 272) (h9 : a ≠ 9) : tkS μ k n s a = μ a := by
  unfold tkS
  split
  · rw [upd_ne (by omega), upd_ne (by omega), upd_ne (by omega)]
  · rw [upd_ne h9]
theorem tk_mi {μ : Nat → Int32} {k n : Nat} {s : Int32} (h : MI μ) (hk : k < 64) (hc : k % 8 < nN μ) (hn : n < 16) : MI (tkS μ k n s) := by
  unfold tkS
  split
  · have h1 := mi_upd (a := 272 + k) (x := s) h (by omega) (by omega) (pw_free (by omega))
    have h2 := mi_upd (a := 336 + k) (x := nI n) h1 (by omega) (by omega) (pw_num (by rw [nb336 hk]; exact hn) (by omega) (by omega))
    have e : μ 4 = nI (nA μ 4) := mi_4 h
    rw [e]
    refine mi_upd h2 (by omega) (by omega) (pw_num (by rw [nb400 hk]; exact mb_4 h) (by omega) (fun _ _ q => ?_))
    rw [nN_upd (by omega), nN_upd (by omega), show 400 + k - 400 = k from by omega] at q
    omega
  · exact mi_upd h (by omega) (by omega) (pw_free (by omega))
/-! floods -/
def may (μ : Nat → Int32) (i f : Nat) : Bool := tb (μ (64 + i)) f && cms μ i f
def ru (r : Nat → Nat) (k i : Nat) : Nat → Nat := fun q => if q = k then i else r q
abbrev FT : Type := (Nat → Nat) × Nat × Int32 × Int32 × (Nat → Int32) × Nat × Int32
def fl1 (node : Nat) (bl td : Bool) (ls f i : Nat) (s : FT) : FT :=
  if may s.2.2.2.2.1 i f = true then
    (if lsB s.2.2.2.2.2.1 ls = true then (s.1, s.2.1, s.2.2.1, s.2.2.2.1, s.2.2.2.2.1, drw s.2.2.2.2.2.1, lsN s.2.2.2.2.2.1 ls s.2.2.2.2.2.2)
     else
      (if (!tb s.2.2.1 i && (bl || tb (s.2.2.2.2.1 (72 + i)) f)) = true then ru s.1 s.2.1 i else s.1,
       if (!tb s.2.2.1 i && (bl || tb (s.2.2.2.2.1 (72 + i)) f)) = true then s.2.1 + 1 else s.2.1,
       if (!tb s.2.2.1 i && (bl || tb (s.2.2.2.2.1 (72 + i)) f)) = true then s.2.2.1 ||| bt1 i else s.2.2.1,
       if (!decide (i = node) && !tb s.2.2.2.1 i) = true then s.2.2.2.1 ||| bt1 i else s.2.2.2.1,
       if (td && (!decide (i = node) && !tb s.2.2.2.1 i)) = true then tkS s.2.2.2.2.1 (8 * i + node) (nA s.2.2.2.2.1 (32 + node)) (s.2.2.2.2.1 (40 + node)) else s.2.2.2.2.1,
       drw s.2.2.2.2.2.1, lsN s.2.2.2.2.2.1 ls s.2.2.2.2.2.2))
  else s
def flI (node : Nat) (bl td : Bool) (ls f : Nat) : Nat → FT → FT
  | 0, s => s
  | i + 1, s => fl1 node bl td ls f i (flI node bl td ls f i s)
/-- n have sent -/
def flW (node : Nat) (bl td : Bool) (ls N : Nat) (s : FT) : Nat → FT
  | 0 => s
  | n + 1 => if n < (flW node bl td ls N s n).2.1 then flI node bl td ls ((flW node bl td ls N s n).1 n) N (flW node bl td ls N s n) else flW node bl td ls N s n
def flS (node : Nat) (bl td : Bool) (ls : Nat) (μ : Nat → Int32) (d : Nat) (lo : Int32) : FT := flW node bl td ls (nN μ) (fun _ => node, 1, bt1 node, nI 0, μ, d, lo) 8
