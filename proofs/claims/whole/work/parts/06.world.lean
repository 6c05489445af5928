/-! the world: the cells of class and reference, each slot at an address of one memory -/
abbrev Mem : Type := Nat → Int32
/-- an object (its class, its slots: a cell or an address); an array (0 ints, 1 bytes, 2 of meshes; length; addresses) -/
abbrev Sh : Type := (Nat × List (Nat ⊕ Nat)) ⊕ (Nat × Nat × (Nat → Nat))
abbrev Wd : Type := (Nat → Nat) × va_G × (ClassId × ClassId × ClassId) × ((Nat → Nat) × (Nat → Nat))
def mc (m o : Nat) : Nat := 35 + 18 * m + o
def vb (m : Nat) : Nat := 10000 + 528 * m
def tr (c : Nat) : Nat := c % 8 * 8 + c / 8
def S0 : List (Nat ⊕ Nat) := [.inl 1, .inr 4000, .inr 4001, .inl 2, .inr 5012, .inr 4900, .inr 4901, .inr 4902, .inl 3, .inl 4, .inl 5, .inl 6, .inr 5001, .inr 5002, .inr 5003, .inl 7, .inl 8, .inr 4002, .inr 5004, .inr 5005, .inr 5006, .inr 5007, .inr 5008, .inr 5009, .inr 4004, .inr 4003, .inr 5010, .inl 9, .inl 10, .inl 11, .inr 5011]
def S12 : List (Nat ⊕ Nat) := [.inl 13, .inr 14002, .inr 14000, .inr 14003, .inr 14004, .inl (mc 0 0), .inl (mc 1 0), .inl 14, .inr 14001, .inl 15, .inl 18, .inl 20, .inl 23, .inl 25, .inl 28, .inl 30, .inl 31]
def S15 : List (Nat ⊕ Nat) := [.inr 15000, .inr 15001, .inl 16, .inr 15002, .inr 15003, .inr 15004, .inr 15005, .inl 17, .inr 15006]
def S18 : List (Nat ⊕ Nat) := [.inl 19, .inr 15013]
def S20 : List (Nat ⊕ Nat) := [.inl 21, .inl 22]
def S23 : List (Nat ⊕ Nat) := [.inl 24, .inr 15020, .inr 15021, .inr 15022]
def S25 : List (Nat ⊕ Nat) := [.inr 15030, .inl 26, .inl 27]
def S28 : List (Nat ⊕ Nat) := [.inr 15040, .inr 15041, .inl 29, .inr 15042, .inr 15043]
def S30 : List (Nat ⊕ Nat) := [.inr 14902, .inr 14900, .inr 14901]
def S31 : List (Nat ⊕ Nat) := [.inl 18, .inl 28, .inl 32, .inl 33, .inl 34]
def SM0 (m : Nat) : List (Nat ⊕ Nat) := [.inr (vb m + 0), .inr (vb m + 1), .inr (vb m + 2), .inr (vb m + 3), .inr (vb m + 4), .inr (vb m + 5), .inr (vb m + 6), .inl (mc m 1), .inl (mc m 2), .inl (mc m 3), .inl (mc m 4), .inl (mc m 11)]
def SM4 (m : Nat) : List (Nat ⊕ Nat) := [.inl (mc m 5), .inl (mc m 6), .inl (mc m 7), .inl (mc m 8), .inl (mc m 9), .inl (mc m 10)]
def SM11 (m : Nat) : List (Nat ⊕ Nat) := [.inl (mc m 12), .inl (mc m 13), .inl (mc m 14), .inl (mc m 15), .inl (mc m 16), .inl (mc m 17), .inr (vb m + 7), .inr (vb m + 8), .inr (vb m + 9)]
def shF (i : Nat) : Sh := match i with
  | 0 => .inl (12, S0)
  | 1 => .inr (0, 3168, fun j => 0 + j)
  | 2 => .inr (0, 8, fun j => 5100 + j)
  | 3 => .inr (0, 8, fun j => 5110 + j)
  | 4 => .inr (0, 8, fun j => 5120 + j)
  | 5 => .inr (0, 8, fun j => 5130 + j)
  | 6 => .inr (0, 8, fun j => 5140 + j)
  | 7 => .inr (1, 400, fun j => 4100 + j)
  | 8 => .inr (1, 400, fun j => 5600 + j)
  | 9 => .inr (0, 8, fun j => 5150 + j)
  | 10 => .inr (0, 8, fun j => 5160 + j)
  | 11 => .inr (0, 10, fun j => 5170 + j)
  | 12 => .inl (11, S12)
  | 13 => .inr (1, 400, fun j => 14100 + j)
  | 14 => .inr (2, 4, fun j => mc (2 + j) 0)
  | 15 => .inl (7, S15)
  | 16 => .inr (1, 400, fun j => 15600 + j)
  | 17 => .inr (0, 3, fun j => 15010 + j)
  | 18 => .inl (0, S18)
  | 19 => .inr (0, 8, fun j => 15100 + j)
  | 20 => .inl (8, S20)
  | 21 => .inr (0, 64, fun j => 15200 + j)
  | 22 => .inr (0, 64, fun j => 15264 + j)
  | 23 => .inl (2, S23)
  | 24 => .inr (0, 9, fun j => 15170 + j)
  | 25 => .inl (10, S25)
  | 26 => .inr (0, 8, fun j => 15180 + j)
  | 27 => .inr (0, 64, fun j => 15330 + j)
  | 28 => .inl (1, S28)
  | 29 => .inr (0, 8, fun j => 15140 + j)
  | 30 => .inl (4, S30)
  | 31 => .inl (9, S31)
  | 32 => .inr (0, 8, fun j => 15110 + j)
  | 33 => .inr (0, 8, fun j => 15120 + j)
  | 34 => .inr (0, 8, fun j => 15130 + j)
  | _ => .inr (0, 0, fun j => 0)
def shM (m o : Nat) : Sh := match o with
  | 0 => .inl (5, SM0 m)
  | 1 => .inr (0, 8, fun j => vb m + (16 + j))
  | 2 => .inr (0, 8, fun j => vb m + (24 + j))
  | 3 => .inr (0, 64, fun j => vb m + (208 + tr j))
  | 4 => .inl (3, SM4 m)
  | 5 => .inr (0, 64, fun j => vb m + (80 + j))
  | 6 => .inr (0, 64, fun j => vb m + (144 + j))
  | 7 => .inr (0, 8, fun j => vb m + (56 + j))
  | 8 => .inr (0, 8, fun j => vb m + (64 + j))
  | 9 => .inr (0, 8, fun j => vb m + (72 + j))
  | 10 => .inr (0, 8, fun j => vb m + (48 + j))
  | 11 => .inl (6, SM11 m)
  | 12 => .inr (0, 64, fun j => vb m + (272 + j))
  | 13 => .inr (0, 64, fun j => vb m + (336 + j))
  | 14 => .inr (0, 64, fun j => vb m + (400 + j))
  | 15 => .inr (0, 8, fun j => vb m + (32 + j))
  | 16 => .inr (0, 8, fun j => vb m + (40 + j))
  | 17 => .inr (0, 64, fun j => vb m + (464 + j))
  | _ => .inr (0, 0, fun j => 0)
def sh (i : Nat) : Sh := if i < 35 then shF i else shM ((i - 35) / 18) ((i - 35) % 18)
def sa (s : Sh) (k : Nat) : Option Nat := match s with
  | .inl (_, fs) => match fs[k]? with
    | some (.inr v) => some v
    | _ => none
  | .inr (t, n, f) => if t ≠ 2 ∧ k < n then some (f k) else none
def slen : Sh → Nat
  | .inl (_, fs) => fs.length
  | .inr (_, n, _) => n
def invR : List (Nat × Nat × Nat × Nat) := [(0, 3168, 1, 0), (4000, 4001, 0, 1), (4001, 4002, 0, 2), (4002, 4003, 0, 17), (4003, 4004, 0, 25), (4004, 4005, 0, 24), (4100, 4500, 7, 0), (4900, 4901, 0, 5), (4901, 4902, 0, 6), (4902, 4903, 0, 7), (5001, 5002, 0, 12), (5002, 5003, 0, 13), (5003, 5004, 0, 14), (5004, 5005, 0, 18), (5005, 5006, 0, 19), (5006, 5007, 0, 20), (5007, 5008, 0, 21), (5008, 5009, 0, 22), (5009, 5010, 0, 23), (5010, 5011, 0, 26), (5011, 5012, 0, 30), (5012, 5013, 0, 4), (5100, 5108, 2, 0), (5110, 5118, 3, 0), (5120, 5128, 4, 0), (5130, 5138, 5, 0), (5140, 5148, 6, 0), (5150, 5158, 9, 0), (5160, 5168, 10, 0), (5170, 5180, 11, 0), (5600, 6000, 8, 0), (14000, 14001, 12, 2), (14001, 14002, 12, 8), (14002, 14003, 12, 1), (14003, 14004, 12, 3), (14004, 14005, 12, 4), (14100, 14500, 13, 0), (14900, 14901, 30, 1), (14901, 14902, 30, 2), (14902, 14903, 30, 0), (15000, 15001, 15, 0), (15001, 15002, 15, 1), (15002, 15003, 15, 3), (15003, 15004, 15, 4), (15004, 15005, 15, 5), (15005, 15006, 15, 6), (15006, 15007, 15, 8), (15010, 15013, 17, 0), (15013, 15014, 18, 1), (15020, 15021, 23, 1), (15021, 15022, 23, 2), (15022, 15023, 23, 3), (15030, 15031, 25, 0), (15040, 15041, 28, 0), (15041, 15042, 28, 1), (15042, 15043, 28, 3), (15043, 15044, 28, 4), (15100, 15108, 19, 0), (15110, 15118, 32, 0), (15120, 15128, 33, 0), (15130, 15138, 34, 0), (15140, 15148, 29, 0), (15170, 15179, 24, 0), (15180, 15188, 26, 0), (15200, 15264, 21, 0), (15264, 15328, 22, 0), (15330, 15394, 27, 0), (15600, 16000, 16, 0)]
def invM : List (Nat × Nat × Nat × Nat) := [(0, 1, 0, 0), (1, 2, 0, 1), (2, 3, 0, 2), (3, 4, 0, 3), (4, 5, 0, 4), (5, 6, 0, 5), (6, 7, 0, 6), (7, 8, 11, 6), (8, 9, 11, 7), (9, 10, 11, 8), (16, 24, 1, 0), (24, 32, 2, 0), (32, 40, 15, 0), (40, 48, 16, 0), (48, 56, 10, 0), (56, 64, 7, 0), (64, 72, 8, 0), (72, 80, 9, 0), (80, 144, 5, 0), (144, 208, 6, 0), (272, 336, 12, 0), (336, 400, 13, 0), (400, 464, 14, 0), (464, 528, 17, 0)]
def invL : List (Nat × Nat × Nat × Nat) → Nat → Nat × Nat
  | [], _ => (1000, 0)
  | (lo, hi, c, k) :: r, v => if lo ≤ v ∧ v < hi then (c, k + (v - lo)) else invL r v
def inv (v : Nat) : Nat × Nat := if 10000 ≤ v ∧ v < 13168 then
    (if 208 ≤ (v - 10000) % 528 ∧ (v - 10000) % 528 < 272 then (mc ((v - 10000) / 528) 3, tr ((v - 10000) % 528 - 208)) else
      (mc ((v - 10000) / 528) (invL invM ((v - 10000) % 528)).1, (invL invM ((v - 10000) % 528)).2))
  else invL invR v
def chk (i : Nat) : Bool := (List.range (slen (sh i))).all fun k => match sa (sh i) k with
  | some v => inv v == (i, k)
  | none => true
set_option maxRecDepth 100000 in
theorem chk_all : (List.range 143).all chk = true := by decide +kernel
theorem sa_lt {s : Sh} {k v : Nat} (h : sa s k = some v) : k < slen s := by
  obtain ⟨ci, fs⟩ | ⟨t, n, f⟩ := s
  · simp only [sa] at h
    simp only [slen]
    rcases Nat.lt_or_ge k fs.length with q | q
    · exact q
    · rw [List.getElem?_eq_none q] at h; cases h
  · simp only [sa] at h
    simp only [slen]
    split at h
    · next q => exact q.2
    · cases h
/-- each address is one slot's -/
theorem inv_sa {i k v : Nat} (hi : i < 143) (h : sa (sh i) k = some v) : inv v = (i, k) := by
  have h1 := List.all_eq_true.mp chk_all i (List.mem_range.mpr hi)
  have h2 := List.all_eq_true.mp h1 k (List.mem_range.mpr (sa_lt h))
  rw [h] at h2
  simpa using h2
def lenok (i : Nat) : Bool := decide (slen (sh i) < 4000)
theorem len_all : (List.range 143).all lenok = true := by decide +kernel
theorem sh_len {i t n : Nat} {f : Nat → Nat} (hi : i < 143) (h : sh i = .inr (t, n, f)) : n < 4000 := by
  have h1 := List.all_eq_true.mp len_all i (List.mem_range.mpr hi)
  simp only [lenok, h, slen, decide_eq_true_eq] at h1
  exact h1
abbrev Sc (i : Nat) (s : Sh) : Prop := i < 143 ∧ sh i = s
theorem sc_0 : Sc 0 (.inl (12, S0)) := ⟨by decide, rfl⟩
theorem sc_1 : Sc 1 (.inr (0, 3168, fun j => 0 + j)) := ⟨by decide, rfl⟩
theorem sc_2 : Sc 2 (.inr (0, 8, fun j => 5100 + j)) := ⟨by decide, rfl⟩
theorem sc_3 : Sc 3 (.inr (0, 8, fun j => 5110 + j)) := ⟨by decide, rfl⟩
theorem sc_4 : Sc 4 (.inr (0, 8, fun j => 5120 + j)) := ⟨by decide, rfl⟩
theorem sc_5 : Sc 5 (.inr (0, 8, fun j => 5130 + j)) := ⟨by decide, rfl⟩
theorem sc_6 : Sc 6 (.inr (0, 8, fun j => 5140 + j)) := ⟨by decide, rfl⟩
theorem sc_7 : Sc 7 (.inr (1, 400, fun j => 4100 + j)) := ⟨by decide, rfl⟩
theorem sc_8 : Sc 8 (.inr (1, 400, fun j => 5600 + j)) := ⟨by decide, rfl⟩
theorem sc_9 : Sc 9 (.inr (0, 8, fun j => 5150 + j)) := ⟨by decide, rfl⟩
theorem sc_10 : Sc 10 (.inr (0, 8, fun j => 5160 + j)) := ⟨by decide, rfl⟩
theorem sc_11 : Sc 11 (.inr (0, 10, fun j => 5170 + j)) := ⟨by decide, rfl⟩
theorem sc_12 : Sc 12 (.inl (11, S12)) := ⟨by decide, rfl⟩
theorem sc_13 : Sc 13 (.inr (1, 400, fun j => 14100 + j)) := ⟨by decide, rfl⟩
theorem sc_14 : Sc 14 (.inr (2, 4, fun j => mc (2 + j) 0)) := ⟨by decide, rfl⟩
theorem sc_15 : Sc 15 (.inl (7, S15)) := ⟨by decide, rfl⟩
theorem sc_16 : Sc 16 (.inr (1, 400, fun j => 15600 + j)) := ⟨by decide, rfl⟩
theorem sc_17 : Sc 17 (.inr (0, 3, fun j => 15010 + j)) := ⟨by decide, rfl⟩
theorem sc_18 : Sc 18 (.inl (0, S18)) := ⟨by decide, rfl⟩
theorem sc_19 : Sc 19 (.inr (0, 8, fun j => 15100 + j)) := ⟨by decide, rfl⟩
theorem sc_20 : Sc 20 (.inl (8, S20)) := ⟨by decide, rfl⟩
theorem sc_21 : Sc 21 (.inr (0, 64, fun j => 15200 + j)) := ⟨by decide, rfl⟩
theorem sc_22 : Sc 22 (.inr (0, 64, fun j => 15264 + j)) := ⟨by decide, rfl⟩
theorem sc_23 : Sc 23 (.inl (2, S23)) := ⟨by decide, rfl⟩
theorem sc_24 : Sc 24 (.inr (0, 9, fun j => 15170 + j)) := ⟨by decide, rfl⟩
theorem sc_25 : Sc 25 (.inl (10, S25)) := ⟨by decide, rfl⟩
theorem sc_26 : Sc 26 (.inr (0, 8, fun j => 15180 + j)) := ⟨by decide, rfl⟩
theorem sc_27 : Sc 27 (.inr (0, 64, fun j => 15330 + j)) := ⟨by decide, rfl⟩
theorem sc_28 : Sc 28 (.inl (1, S28)) := ⟨by decide, rfl⟩
theorem sc_29 : Sc 29 (.inr (0, 8, fun j => 15140 + j)) := ⟨by decide, rfl⟩
theorem sc_30 : Sc 30 (.inl (4, S30)) := ⟨by decide, rfl⟩
theorem sc_31 : Sc 31 (.inl (9, S31)) := ⟨by decide, rfl⟩
theorem sc_32 : Sc 32 (.inr (0, 8, fun j => 15110 + j)) := ⟨by decide, rfl⟩
theorem sc_33 : Sc 33 (.inr (0, 8, fun j => 15120 + j)) := ⟨by decide, rfl⟩
theorem sc_34 : Sc 34 (.inr (0, 8, fun j => 15130 + j)) := ⟨by decide, rfl⟩
theorem sh_mc {m o : Nat} (hm : m < 6) (ho : o < 18) : mc m o < 143 ∧ sh (mc m o) = shM m o := by
  have h0 : ¬ mc m o < 35 := by unfold mc; omega
  have h1 : (mc m o - 35) / 18 = m := by unfold mc; omega
  have h2 : (mc m o - 35) % 18 = o := by unfold mc; omega
  refine ⟨by unfold mc; omega, ?_⟩
  unfold sh
  rw [if_neg h0, h1, h2]
theorem sM_0 {m : Nat} (hm : m < 6) : Sc (mc m 0) (.inl (5, SM0 m)) := sh_mc hm (by decide)
theorem sM_1 {m : Nat} (hm : m < 6) : Sc (mc m 1) (.inr (0, 8, fun j => vb m + (16 + j))) := sh_mc hm (by decide)
theorem sM_2 {m : Nat} (hm : m < 6) : Sc (mc m 2) (.inr (0, 8, fun j => vb m + (24 + j))) := sh_mc hm (by decide)
theorem sM_3 {m : Nat} (hm : m < 6) : Sc (mc m 3) (.inr (0, 64, fun j => vb m + (208 + tr j))) := sh_mc hm (by decide)
theorem sM_4 {m : Nat} (hm : m < 6) : Sc (mc m 4) (.inl (3, SM4 m)) := sh_mc hm (by decide)
theorem sM_5 {m : Nat} (hm : m < 6) : Sc (mc m 5) (.inr (0, 64, fun j => vb m + (80 + j))) := sh_mc hm (by decide)
theorem sM_6 {m : Nat} (hm : m < 6) : Sc (mc m 6) (.inr (0, 64, fun j => vb m + (144 + j))) := sh_mc hm (by decide)
theorem sM_7 {m : Nat} (hm : m < 6) : Sc (mc m 7) (.inr (0, 8, fun j => vb m + (56 + j))) := sh_mc hm (by decide)
theorem sM_8 {m : Nat} (hm : m < 6) : Sc (mc m 8) (.inr (0, 8, fun j => vb m + (64 + j))) := sh_mc hm (by decide)
theorem sM_9 {m : Nat} (hm : m < 6) : Sc (mc m 9) (.inr (0, 8, fun j => vb m + (72 + j))) := sh_mc hm (by decide)
theorem sM_10 {m : Nat} (hm : m < 6) : Sc (mc m 10) (.inr (0, 8, fun j => vb m + (48 + j))) := sh_mc hm (by decide)
theorem sM_11 {m : Nat} (hm : m < 6) : Sc (mc m 11) (.inl (6, SM11 m)) := sh_mc hm (by decide)
theorem sM_12 {m : Nat} (hm : m < 6) : Sc (mc m 12) (.inr (0, 64, fun j => vb m + (272 + j))) := sh_mc hm (by decide)
theorem sM_13 {m : Nat} (hm : m < 6) : Sc (mc m 13) (.inr (0, 64, fun j => vb m + (336 + j))) := sh_mc hm (by decide)
theorem sM_14 {m : Nat} (hm : m < 6) : Sc (mc m 14) (.inr (0, 64, fun j => vb m + (400 + j))) := sh_mc hm (by decide)
theorem sM_15 {m : Nat} (hm : m < 6) : Sc (mc m 15) (.inr (0, 8, fun j => vb m + (32 + j))) := sh_mc hm (by decide)
theorem sM_16 {m : Nat} (hm : m < 6) : Sc (mc m 16) (.inr (0, 8, fun j => vb m + (40 + j))) := sh_mc hm (by decide)
theorem sM_17 {m : Nat} (hm : m < 6) : Sc (mc m 17) (.inr (0, 64, fun j => vb m + (464 + j))) := sh_mc hm (by decide)
/-- a field that code of 'own' reads at idx: the k-th slot of objects of the ci-th class -/
def Fq (own : String) (idx ci k : Nat) : Prop := ∃ (C : String) (T : u_T) (N : Nat), vwCl[ci]? = some (C, T, N) ∧ k < N ∧ (T k).1 = C ∧ Fl own idx C T N k
/-- .. and writes: an int, not final -/
def Fp (own : String) (idx ci k : Nat) : Prop := ∃ (C : String) (T : u_T) (N : Nat) (ty0 : Nat → FieldType), vwCl[ci]? = some (C, T, N) ∧ k < N ∧ (T k).1 = C ∧ Fl own idx C T N k ∧ (∀ k, k < N → parseFieldDescriptor (T k).2.2.1 = some (ty0 k)) ∧ (∀ a, a < N → ∀ b, b < N → a ≠ b → (T a).2.1 ≠ (T b).2.1) ∧ (T k).2.2.2 = false ∧ parseFieldDescriptor (T k).2.2.1 = some .int
theorem gX3_9 : Fq RX3 9 3 0 := ⟨RX3, TX3, 6, rfl, by decide, rfl, fX3_9⟩
theorem gX9_118 : Fq RX9 118 3 0 := ⟨RX3, TX3, 6, rfl, by decide, rfl, fX9_118⟩
theorem gX11_212 : Fq RX11 212 3 0 := ⟨RX3, TX3, 6, rfl, by decide, rfl, fX11_212⟩
theorem gX3_15 : Fq RX3 15 3 1 := ⟨RX3, TX3, 6, rfl, by decide, rfl, fX3_15⟩
theorem gX0_53 : Fq RX0 53 3 1 := ⟨RX3, TX3, 6, rfl, by decide, rfl, fX0_53⟩
theorem gX8_53 : Fq RX8 53 3 1 := ⟨RX3, TX3, 6, rfl, by decide, rfl, fX8_53⟩
theorem gX9_139 : Fq RX9 139 3 1 := ⟨RX3, TX3, 6, rfl, by decide, rfl, fX9_139⟩
theorem gX11_222 : Fq RX11 222 3 1 := ⟨RX3, TX3, 6, rfl, by decide, rfl, fX11_222⟩
theorem gX3_18 : Fq RX3 18 3 2 := ⟨RX3, TX3, 6, rfl, by decide, rfl, fX3_18⟩
theorem gX9_84 : Fq RX9 84 3 2 := ⟨RX3, TX3, 6, rfl, by decide, rfl, fX9_84⟩
theorem gX11_185 : Fq RX11 185 3 2 := ⟨RX3, TX3, 6, rfl, by decide, rfl, fX11_185⟩
theorem gX3_21 : Fq RX3 21 3 3 := ⟨RX3, TX3, 6, rfl, by decide, rfl, fX3_21⟩
theorem gX0_25 : Fq RX0 25 3 3 := ⟨RX3, TX3, 6, rfl, by decide, rfl, fX0_25⟩
theorem gX1_41 : Fq RX1 41 3 3 := ⟨RX3, TX3, 6, rfl, by decide, rfl, fX1_41⟩
theorem gX8_32 : Fq RX8 32 3 3 := ⟨RX3, TX3, 6, rfl, by decide, rfl, fX8_32⟩
theorem gX9_93 : Fq RX9 93 3 3 := ⟨RX3, TX3, 6, rfl, by decide, rfl, fX9_93⟩
theorem gX11_190 : Fq RX11 190 3 3 := ⟨RX3, TX3, 6, rfl, by decide, rfl, fX11_190⟩
theorem gX3_24 : Fq RX3 24 3 4 := ⟨RX3, TX3, 6, rfl, by decide, rfl, fX3_24⟩
theorem gX1_63 : Fq RX1 63 3 4 := ⟨RX3, TX3, 6, rfl, by decide, rfl, fX1_63⟩
theorem gX9_136 : Fq RX9 136 3 4 := ⟨RX3, TX3, 6, rfl, by decide, rfl, fX9_136⟩
theorem gX11_200 : Fq RX11 200 3 4 := ⟨RX3, TX3, 6, rfl, by decide, rfl, fX11_200⟩
theorem gX3_27 : Fq RX3 27 3 5 := ⟨RX3, TX3, 6, rfl, by decide, rfl, fX3_27⟩
theorem gX9_54 : Fq RX9 54 3 5 := ⟨RX3, TX3, 6, rfl, by decide, rfl, fX9_54⟩
theorem gX11_197 : Fq RX11 197 3 5 := ⟨RX3, TX3, 6, rfl, by decide, rfl, fX11_197⟩
theorem gX6_9 : Fq RX6 9 6 0 := ⟨RX6, TX6, 9, rfl, by decide, rfl, fX6_9⟩
theorem gX8_65 : Fq RX8 65 6 0 := ⟨RX6, TX6, 9, rfl, by decide, rfl, fX8_65⟩
theorem gX11_231 : Fq RX11 231 6 0 := ⟨RX6, TX6, 9, rfl, by decide, rfl, fX11_231⟩
theorem gX6_15 : Fq RX6 15 6 1 := ⟨RX6, TX6, 9, rfl, by decide, rfl, fX6_15⟩
theorem gX11_234 : Fq RX11 234 6 1 := ⟨RX6, TX6, 9, rfl, by decide, rfl, fX11_234⟩
theorem gX6_18 : Fq RX6 18 6 2 := ⟨RX6, TX6, 9, rfl, by decide, rfl, fX6_18⟩
theorem gX8_60 : Fq RX8 60 6 2 := ⟨RX6, TX6, 9, rfl, by decide, rfl, fX8_60⟩
theorem gX11_228 : Fq RX11 228 6 2 := ⟨RX6, TX6, 9, rfl, by decide, rfl, fX11_228⟩
theorem gX6_21 : Fq RX6 21 6 3 := ⟨RX6, TX6, 9, rfl, by decide, rfl, fX6_21⟩
theorem gX1_78 : Fq RX1 78 6 3 := ⟨RX6, TX6, 9, rfl, by decide, rfl, fX1_78⟩
theorem gX11_178 : Fq RX11 178 6 3 := ⟨RX6, TX6, 9, rfl, by decide, rfl, fX11_178⟩
theorem gX6_24 : Fq RX6 24 6 4 := ⟨RX6, TX6, 9, rfl, by decide, rfl, fX6_24⟩
theorem gX1_83 : Fq RX1 83 6 4 := ⟨RX6, TX6, 9, rfl, by decide, rfl, fX1_83⟩
theorem gX11_203 : Fq RX11 203 6 4 := ⟨RX6, TX6, 9, rfl, by decide, rfl, fX11_203⟩
theorem gX6_27 : Fq RX6 27 6 5 := ⟨RX6, TX6, 9, rfl, by decide, rfl, fX6_27⟩
theorem gX6_36 : Fq RX6 36 6 6 := ⟨RX6, TX6, 9, rfl, by decide, rfl, fX6_36⟩
theorem pX6_36 : Fp RX6 36 6 6 := ⟨RX6, TX6, 9, tyX6, rfl, by decide, rfl, fX6_36, okX6, nmX6, rfl, by decide +kernel⟩
theorem gX11_139 : Fq RX11 139 6 6 := ⟨RX6, TX6, 9, rfl, by decide, rfl, fX11_139⟩
theorem pX11_139 : Fp RX11 139 6 6 := ⟨RX6, TX6, 9, tyX6, rfl, by decide, rfl, fX11_139, okX6, nmX6, rfl, by decide +kernel⟩
theorem gX6_40 : Fq RX6 40 6 7 := ⟨RX6, TX6, 9, rfl, by decide, rfl, fX6_40⟩
theorem pX6_40 : Fp RX6 40 6 7 := ⟨RX6, TX6, 9, tyX6, rfl, by decide, rfl, fX6_40, okX6, nmX6, rfl, by decide +kernel⟩
theorem gX11_144 : Fq RX11 144 6 7 := ⟨RX6, TX6, 9, rfl, by decide, rfl, fX11_144⟩
theorem pX11_144 : Fp RX11 144 6 7 := ⟨RX6, TX6, 9, tyX6, rfl, by decide, rfl, fX11_144, okX6, nmX6, rfl, by decide +kernel⟩
theorem gX6_43 : Fq RX6 43 6 8 := ⟨RX6, TX6, 9, rfl, by decide, rfl, fX6_43⟩
theorem pX6_43 : Fp RX6 43 6 8 := ⟨RX6, TX6, 9, tyX6, rfl, by decide, rfl, fX6_43, okX6, nmX6, rfl, by decide +kernel⟩
theorem gX11_147 : Fq RX11 147 6 8 := ⟨RX6, TX6, 9, rfl, by decide, rfl, fX11_147⟩
theorem pX11_147 : Fp RX11 147 6 8 := ⟨RX6, TX6, 9, tyX6, rfl, by decide, rfl, fX11_147, okX6, nmX6, rfl, by decide +kernel⟩
theorem gX8_18 : Fq RX8 18 5 0 := ⟨RX5, TX5, 12, rfl, by decide, rfl, fX8_18⟩
theorem pX8_18 : Fp RX8 18 5 0 := ⟨RX5, TX5, 12, tyX5, rfl, by decide, rfl, fX8_18, okX5, nmX5, rfl, by decide +kernel⟩
theorem gX0_15 : Fq RX0 15 5 0 := ⟨RX5, TX5, 12, rfl, by decide, rfl, fX0_15⟩
theorem pX0_15 : Fp RX0 15 5 0 := ⟨RX5, TX5, 12, tyX5, rfl, by decide, rfl, fX0_15, okX5, nmX5, rfl, by decide +kernel⟩
theorem gX9_47 : Fq RX9 47 5 0 := ⟨RX5, TX5, 12, rfl, by decide, rfl, fX9_47⟩
theorem pX9_47 : Fp RX9 47 5 0 := ⟨RX5, TX5, 12, tyX5, rfl, by decide, rfl, fX9_47, okX5, nmX5, rfl, by decide +kernel⟩
theorem gX1_32 : Fq RX1 32 5 0 := ⟨RX5, TX5, 12, rfl, by decide, rfl, fX1_32⟩
theorem pX1_32 : Fp RX1 32 5 0 := ⟨RX5, TX5, 12, tyX5, rfl, by decide, rfl, fX1_32, okX5, nmX5, rfl, by decide +kernel⟩
theorem gX11_120 : Fq RX11 120 5 0 := ⟨RX5, TX5, 12, rfl, by decide, rfl, fX11_120⟩
theorem pX11_120 : Fp RX11 120 5 0 := ⟨RX5, TX5, 12, tyX5, rfl, by decide, rfl, fX11_120, okX5, nmX5, rfl, by decide +kernel⟩
theorem gX5_38 : Fq RX5 38 5 0 := ⟨RX5, TX5, 12, rfl, by decide, rfl, fX5_38⟩
theorem pX5_38 : Fp RX5 38 5 0 := ⟨RX5, TX5, 12, tyX5, rfl, by decide, rfl, fX5_38, okX5, nmX5, rfl, by decide +kernel⟩
theorem gX7_138 : Fq RX7 138 5 0 := ⟨RX5, TX5, 12, rfl, by decide, rfl, fX7_138⟩
theorem pX7_138 : Fp RX7 138 5 0 := ⟨RX5, TX5, 12, tyX5, rfl, by decide, rfl, fX7_138, okX5, nmX5, rfl, by decide +kernel⟩
theorem gX10_18 : Fq RX10 18 5 1 := ⟨RX5, TX5, 12, rfl, by decide, rfl, fX10_18⟩
theorem pX10_18 : Fp RX10 18 5 1 := ⟨RX5, TX5, 12, tyX5, rfl, by decide, rfl, fX10_18, okX5, nmX5, rfl, by decide +kernel⟩
theorem gX5_42 : Fq RX5 42 5 1 := ⟨RX5, TX5, 12, rfl, by decide, rfl, fX5_42⟩
theorem pX5_42 : Fp RX5 42 5 1 := ⟨RX5, TX5, 12, tyX5, rfl, by decide, rfl, fX5_42, okX5, nmX5, rfl, by decide +kernel⟩
theorem gX11_123 : Fq RX11 123 5 1 := ⟨RX5, TX5, 12, rfl, by decide, rfl, fX11_123⟩
theorem pX11_123 : Fp RX11 123 5 1 := ⟨RX5, TX5, 12, tyX5, rfl, by decide, rfl, fX11_123, okX5, nmX5, rfl, by decide +kernel⟩
theorem gX7_167 : Fq RX7 167 5 1 := ⟨RX5, TX5, 12, rfl, by decide, rfl, fX7_167⟩
theorem pX7_167 : Fp RX7 167 5 1 := ⟨RX5, TX5, 12, tyX5, rfl, by decide, rfl, fX7_167, okX5, nmX5, rfl, by decide +kernel⟩
theorem gX9_29 : Fq RX9 29 5 2 := ⟨RX5, TX5, 12, rfl, by decide, rfl, fX9_29⟩
theorem pX9_29 : Fp RX9 29 5 2 := ⟨RX5, TX5, 12, tyX5, rfl, by decide, rfl, fX9_29, okX5, nmX5, rfl, by decide +kernel⟩
theorem gX5_45 : Fq RX5 45 5 2 := ⟨RX5, TX5, 12, rfl, by decide, rfl, fX5_45⟩
theorem pX5_45 : Fp RX5 45 5 2 := ⟨RX5, TX5, 12, tyX5, rfl, by decide, rfl, fX5_45, okX5, nmX5, rfl, by decide +kernel⟩
theorem gX11_126 : Fq RX11 126 5 2 := ⟨RX5, TX5, 12, rfl, by decide, rfl, fX11_126⟩
theorem pX11_126 : Fp RX11 126 5 2 := ⟨RX5, TX5, 12, tyX5, rfl, by decide, rfl, fX11_126, okX5, nmX5, rfl, by decide +kernel⟩
theorem gX9_75 : Fq RX9 75 5 3 := ⟨RX5, TX5, 12, rfl, by decide, rfl, fX9_75⟩
theorem pX9_75 : Fp RX9 75 5 3 := ⟨RX5, TX5, 12, tyX5, rfl, by decide, rfl, fX9_75, okX5, nmX5, rfl, by decide +kernel⟩
theorem gX5_48 : Fq RX5 48 5 3 := ⟨RX5, TX5, 12, rfl, by decide, rfl, fX5_48⟩
theorem pX5_48 : Fp RX5 48 5 3 := ⟨RX5, TX5, 12, tyX5, rfl, by decide, rfl, fX5_48, okX5, nmX5, rfl, by decide +kernel⟩
theorem gX11_129 : Fq RX11 129 5 3 := ⟨RX5, TX5, 12, rfl, by decide, rfl, fX11_129⟩
theorem pX11_129 : Fp RX11 129 5 3 := ⟨RX5, TX5, 12, tyX5, rfl, by decide, rfl, fX11_129, okX5, nmX5, rfl, by decide +kernel⟩
theorem gX7_170 : Fq RX7 170 5 3 := ⟨RX5, TX5, 12, rfl, by decide, rfl, fX7_170⟩
theorem pX7_170 : Fp RX7 170 5 3 := ⟨RX5, TX5, 12, tyX5, rfl, by decide, rfl, fX7_170, okX5, nmX5, rfl, by decide +kernel⟩
theorem gX1_86 : Fq RX1 86 5 4 := ⟨RX5, TX5, 12, rfl, by decide, rfl, fX1_86⟩
theorem pX1_86 : Fp RX1 86 5 4 := ⟨RX5, TX5, 12, tyX5, rfl, by decide, rfl, fX1_86, okX5, nmX5, rfl, by decide +kernel⟩
theorem gX5_51 : Fq RX5 51 5 4 := ⟨RX5, TX5, 12, rfl, by decide, rfl, fX5_51⟩
theorem pX5_51 : Fp RX5 51 5 4 := ⟨RX5, TX5, 12, tyX5, rfl, by decide, rfl, fX5_51, okX5, nmX5, rfl, by decide +kernel⟩
theorem gX11_132 : Fq RX11 132 5 4 := ⟨RX5, TX5, 12, rfl, by decide, rfl, fX11_132⟩
theorem pX11_132 : Fp RX11 132 5 4 := ⟨RX5, TX5, 12, tyX5, rfl, by decide, rfl, fX11_132, okX5, nmX5, rfl, by decide +kernel⟩
theorem gX7_172 : Fq RX7 172 5 4 := ⟨RX5, TX5, 12, rfl, by decide, rfl, fX7_172⟩
theorem pX7_172 : Fp RX7 172 5 4 := ⟨RX5, TX5, 12, tyX5, rfl, by decide, rfl, fX7_172, okX5, nmX5, rfl, by decide +kernel⟩
theorem gX5_54 : Fq RX5 54 5 5 := ⟨RX5, TX5, 12, rfl, by decide, rfl, fX5_54⟩
theorem pX5_54 : Fp RX5 54 5 5 := ⟨RX5, TX5, 12, tyX5, rfl, by decide, rfl, fX5_54, okX5, nmX5, rfl, by decide +kernel⟩
theorem gX11_153 : Fq RX11 153 5 5 := ⟨RX5, TX5, 12, rfl, by decide, rfl, fX11_153⟩
theorem pX11_153 : Fp RX11 153 5 5 := ⟨RX5, TX5, 12, tyX5, rfl, by decide, rfl, fX11_153, okX5, nmX5, rfl, by decide +kernel⟩
theorem gX5_57 : Fq RX5 57 5 6 := ⟨RX5, TX5, 12, rfl, by decide, rfl, fX5_57⟩
theorem pX5_57 : Fp RX5 57 5 6 := ⟨RX5, TX5, 12, tyX5, rfl, by decide, rfl, fX5_57, okX5, nmX5, rfl, by decide +kernel⟩
theorem gX11_156 : Fq RX11 156 5 6 := ⟨RX5, TX5, 12, rfl, by decide, rfl, fX11_156⟩
theorem pX11_156 : Fp RX11 156 5 6 := ⟨RX5, TX5, 12, tyX5, rfl, by decide, rfl, fX11_156, okX5, nmX5, rfl, by decide +kernel⟩
theorem gX5_9 : Fq RX5 9 5 7 := ⟨RX5, TX5, 12, rfl, by decide, rfl, fX5_9⟩
theorem gX0_34 : Fq RX0 34 5 7 := ⟨RX5, TX5, 12, rfl, by decide, rfl, fX0_34⟩
theorem gX11_174 : Fq RX11 174 5 7 := ⟨RX5, TX5, 12, rfl, by decide, rfl, fX11_174⟩
theorem gX7_161 : Fq RX7 161 5 7 := ⟨RX5, TX5, 12, rfl, by decide, rfl, fX7_161⟩
theorem gX5_15 : Fq RX5 15 5 8 := ⟨RX5, TX5, 12, rfl, by decide, rfl, fX5_15⟩
theorem gX10_25 : Fq RX10 25 5 8 := ⟨RX5, TX5, 12, rfl, by decide, rfl, fX10_25⟩
theorem gX2_44 : Fq RX2 44 5 8 := ⟨RX5, TX5, 12, rfl, by decide, rfl, fX2_44⟩
theorem gX11_206 : Fq RX11 206 5 8 := ⟨RX5, TX5, 12, rfl, by decide, rfl, fX11_206⟩
theorem gX7_164 : Fq RX7 164 5 8 := ⟨RX5, TX5, 12, rfl, by decide, rfl, fX7_164⟩
theorem gX5_18 : Fq RX5 18 5 9 := ⟨RX5, TX5, 12, rfl, by decide, rfl, fX5_18⟩
theorem gX11_225 : Fq RX11 225 5 9 := ⟨RX5, TX5, 12, rfl, by decide, rfl, fX11_225⟩
theorem gX7_174 : Fq RX7 174 5 9 := ⟨RX5, TX5, 12, rfl, by decide, rfl, fX7_174⟩
theorem gX5_24 : Fq RX5 24 5 10 := ⟨RX5, TX5, 12, rfl, by decide, rfl, fX5_24⟩
theorem gX9_35 : Fq RX9 35 5 10 := ⟨RX5, TX5, 12, rfl, by decide, rfl, fX9_35⟩
theorem gX0_21 : Fq RX0 21 5 10 := ⟨RX5, TX5, 12, rfl, by decide, rfl, fX0_21⟩
theorem gX1_37 : Fq RX1 37 5 10 := ⟨RX5, TX5, 12, rfl, by decide, rfl, fX1_37⟩
theorem gX8_28 : Fq RX8 28 5 10 := ⟨RX5, TX5, 12, rfl, by decide, rfl, fX8_28⟩
theorem gX11_181 : Fq RX11 181 5 10 := ⟨RX5, TX5, 12, rfl, by decide, rfl, fX11_181⟩
theorem gX5_31 : Fq RX5 31 5 11 := ⟨RX5, TX5, 12, rfl, by decide, rfl, fX5_31⟩
theorem gX9_65 : Fq RX9 65 5 11 := ⟨RX5, TX5, 12, rfl, by decide, rfl, fX9_65⟩
theorem gX1_70 : Fq RX1 70 5 11 := ⟨RX5, TX5, 12, rfl, by decide, rfl, fX1_70⟩
theorem gX8_56 : Fq RX8 56 5 11 := ⟨RX5, TX5, 12, rfl, by decide, rfl, fX8_56⟩
theorem gX11_135 : Fq RX11 135 5 11 := ⟨RX5, TX5, 12, rfl, by decide, rfl, fX11_135⟩
theorem gX7_46 : Fq RX7 46 7 0 := ⟨RX7, TX7, 9, rfl, by decide, rfl, fX7_46⟩
theorem pX7_46 : Fp RX7 46 7 0 := ⟨RX7, TX7, 9, tyX7, rfl, by decide, rfl, fX7_46, okX7, nmX7, rfl, by decide +kernel⟩
theorem gX11_114 : Fq RX11 114 7 0 := ⟨RX7, TX7, 9, rfl, by decide, rfl, fX11_114⟩
theorem pX11_114 : Fp RX11 114 7 0 := ⟨RX7, TX7, 9, tyX7, rfl, by decide, rfl, fX11_114, okX7, nmX7, rfl, by decide +kernel⟩
theorem gX7_49 : Fq RX7 49 7 1 := ⟨RX7, TX7, 9, rfl, by decide, rfl, fX7_49⟩
theorem pX7_49 : Fp RX7 49 7 1 := ⟨RX7, TX7, 9, tyX7, rfl, by decide, rfl, fX7_49, okX7, nmX7, rfl, by decide +kernel⟩
theorem gX11_115 : Fq RX11 115 7 1 := ⟨RX7, TX7, 9, rfl, by decide, rfl, fX11_115⟩
theorem pX11_115 : Fp RX11 115 7 1 := ⟨RX7, TX7, 9, tyX7, rfl, by decide, rfl, fX11_115, okX7, nmX7, rfl, by decide +kernel⟩
theorem gX7_9 : Fq RX7 9 7 2 := ⟨RX7, TX7, 9, rfl, by decide, rfl, fX7_9⟩
theorem gX7_25 : Fq RX7 25 7 3 := ⟨RX7, TX7, 9, rfl, by decide, rfl, fX7_25⟩
theorem pX7_25 : Fp RX7 25 7 3 := ⟨RX7, TX7, 9, tyX7, rfl, by decide, rfl, fX7_25, okX7, nmX7, rfl, by decide +kernel⟩
theorem gX7_55 : Fq RX7 55 7 4 := ⟨RX7, TX7, 9, rfl, by decide, rfl, fX7_55⟩
theorem pX7_55 : Fp RX7 55 7 4 := ⟨RX7, TX7, 9, tyX7, rfl, by decide, rfl, fX7_55, okX7, nmX7, rfl, by decide +kernel⟩
theorem gX7_100 : Fq RX7 100 7 5 := ⟨RX7, TX7, 9, rfl, by decide, rfl, fX7_100⟩
theorem pX7_100 : Fp RX7 100 7 5 := ⟨RX7, TX7, 9, tyX7, rfl, by decide, rfl, fX7_100, okX7, nmX7, rfl, by decide +kernel⟩
theorem gX7_43 : Fq RX7 43 7 6 := ⟨RX7, TX7, 9, rfl, by decide, rfl, fX7_43⟩
theorem pX7_43 : Fp RX7 43 7 6 := ⟨RX7, TX7, 9, tyX7, rfl, by decide, rfl, fX7_43, okX7, nmX7, rfl, by decide +kernel⟩
theorem gX7_15 : Fq RX7 15 7 7 := ⟨RX7, TX7, 9, rfl, by decide, rfl, fX7_15⟩
theorem gX7_40 : Fq RX7 40 7 8 := ⟨RX7, TX7, 9, rfl, by decide, rfl, fX7_40⟩
theorem pX7_40 : Fp RX7 40 7 8 := ⟨RX7, TX7, 9, tyX7, rfl, by decide, rfl, fX7_40, okX7, nmX7, rfl, by decide +kernel⟩
theorem gX0_9 : Fq RX0 9 0 0 := ⟨RX0, TX0, 2, rfl, by decide, rfl, fX0_9⟩
theorem gX11_243 : Fq RX11 243 0 0 := ⟨RX0, TX0, 2, rfl, by decide, rfl, fX11_243⟩
theorem gX0_88 : Fq RX0 88 0 1 := ⟨RX0, TX0, 2, rfl, by decide, rfl, fX0_88⟩
theorem pX0_88 : Fp RX0 88 0 1 := ⟨RX0, TX0, 2, tyX0, rfl, by decide, rfl, fX0_88, okX0, nmX0, rfl, by decide +kernel⟩
theorem gX11_240 : Fq RX11 240 0 1 := ⟨RX0, TX0, 2, rfl, by decide, rfl, fX11_240⟩
theorem pX11_240 : Fp RX11 240 0 1 := ⟨RX0, TX0, 2, tyX0, rfl, by decide, rfl, fX11_240, okX0, nmX0, rfl, by decide +kernel⟩
theorem gX8_9 : Fq RX8 9 8 0 := ⟨RX8, TX8, 2, rfl, by decide, rfl, fX8_9⟩
theorem gX11_273 : Fq RX11 273 8 0 := ⟨RX8, TX8, 2, rfl, by decide, rfl, fX11_273⟩
theorem gX8_15 : Fq RX8 15 8 1 := ⟨RX8, TX8, 2, rfl, by decide, rfl, fX8_15⟩
theorem gX2_31 : Fq RX2 31 8 1 := ⟨RX8, TX8, 2, rfl, by decide, rfl, fX2_31⟩
theorem gX11_276 : Fq RX11 276 8 1 := ⟨RX8, TX8, 2, rfl, by decide, rfl, fX11_276⟩
theorem gX2_9 : Fq RX2 9 2 0 := ⟨RX2, TX2, 4, rfl, by decide, rfl, fX2_9⟩
theorem gX11_319 : Fq RX11 319 2 0 := ⟨RX2, TX2, 4, rfl, by decide, rfl, fX11_319⟩
theorem gX2_15 : Fq RX2 15 2 1 := ⟨RX2, TX2, 4, rfl, by decide, rfl, fX2_15⟩
theorem pX2_15 : Fp RX2 15 2 1 := ⟨RX2, TX2, 4, tyX2, rfl, by decide, rfl, fX2_15, okX2, nmX2, rfl, by decide +kernel⟩
theorem gX11_296 : Fq RX11 296 2 1 := ⟨RX2, TX2, 4, rfl, by decide, rfl, fX11_296⟩
theorem pX11_296 : Fp RX11 296 2 1 := ⟨RX2, TX2, 4, tyX2, rfl, by decide, rfl, fX11_296, okX2, nmX2, rfl, by decide +kernel⟩
theorem gX2_19 : Fq RX2 19 2 2 := ⟨RX2, TX2, 4, rfl, by decide, rfl, fX2_19⟩
theorem pX2_19 : Fp RX2 19 2 2 := ⟨RX2, TX2, 4, tyX2, rfl, by decide, rfl, fX2_19, okX2, nmX2, rfl, by decide +kernel⟩
theorem gX11_293 : Fq RX11 293 2 2 := ⟨RX2, TX2, 4, rfl, by decide, rfl, fX11_293⟩
theorem pX11_293 : Fp RX11 293 2 2 := ⟨RX2, TX2, 4, tyX2, rfl, by decide, rfl, fX11_293, okX2, nmX2, rfl, by decide +kernel⟩
theorem gX2_28 : Fq RX2 28 2 3 := ⟨RX2, TX2, 4, rfl, by decide, rfl, fX2_28⟩
theorem pX2_28 : Fp RX2 28 2 3 := ⟨RX2, TX2, 4, tyX2, rfl, by decide, rfl, fX2_28, okX2, nmX2, rfl, by decide +kernel⟩
theorem gX11_322 : Fq RX11 322 2 3 := ⟨RX2, TX2, 4, rfl, by decide, rfl, fX11_322⟩
theorem pX11_322 : Fp RX11 322 2 3 := ⟨RX2, TX2, 4, tyX2, rfl, by decide, rfl, fX11_322, okX2, nmX2, rfl, by decide +kernel⟩
theorem gX10_24 : Fq RX10 24 10 0 := ⟨RX10, TX10, 3, rfl, by decide, rfl, fX10_24⟩
theorem pX10_24 : Fp RX10 24 10 0 := ⟨RX10, TX10, 3, tyX10, rfl, by decide, rfl, fX10_24, okX10, nmX10, rfl, by decide +kernel⟩
theorem gX10_9 : Fq RX10 9 10 1 := ⟨RX10, TX10, 3, rfl, by decide, rfl, fX10_9⟩
theorem gX10_15 : Fq RX10 15 10 2 := ⟨RX10, TX10, 3, rfl, by decide, rfl, fX10_15⟩
theorem gX11_308 : Fq RX11 308 10 2 := ⟨RX10, TX10, 3, rfl, by decide, rfl, fX11_308⟩
theorem gX1_15 : Fq RX1 15 1 0 := ⟨RX1, TX1, 5, rfl, by decide, rfl, fX1_15⟩
theorem pX1_15 : Fp RX1 15 1 0 := ⟨RX1, TX1, 5, tyX1, rfl, by decide, rfl, fX1_15, okX1, nmX1, rfl, by decide +kernel⟩
theorem gX9_152 : Fq RX9 152 1 0 := ⟨RX1, TX1, 5, rfl, by decide, rfl, fX9_152⟩
theorem pX9_152 : Fp RX9 152 1 0 := ⟨RX1, TX1, 5, tyX1, rfl, by decide, rfl, fX9_152, okX1, nmX1, rfl, by decide +kernel⟩
theorem gX11_357 : Fq RX11 357 1 0 := ⟨RX1, TX1, 5, rfl, by decide, rfl, fX11_357⟩
theorem pX11_357 : Fp RX11 357 1 0 := ⟨RX1, TX1, 5, tyX1, rfl, by decide, rfl, fX11_357, okX1, nmX1, rfl, by decide +kernel⟩
theorem gX1_29 : Fq RX1 29 1 1 := ⟨RX1, TX1, 5, rfl, by decide, rfl, fX1_29⟩
theorem pX1_29 : Fp RX1 29 1 1 := ⟨RX1, TX1, 5, tyX1, rfl, by decide, rfl, fX1_29, okX1, nmX1, rfl, by decide +kernel⟩
theorem gX9_161 : Fq RX9 161 1 1 := ⟨RX1, TX1, 5, rfl, by decide, rfl, fX9_161⟩
theorem pX9_161 : Fp RX9 161 1 1 := ⟨RX1, TX1, 5, tyX1, rfl, by decide, rfl, fX9_161, okX1, nmX1, rfl, by decide +kernel⟩
theorem gX11_360 : Fq RX11 360 1 1 := ⟨RX1, TX1, 5, rfl, by decide, rfl, fX11_360⟩
theorem pX11_360 : Fp RX11 360 1 1 := ⟨RX1, TX1, 5, tyX1, rfl, by decide, rfl, fX11_360, okX1, nmX1, rfl, by decide +kernel⟩
theorem gX1_9 : Fq RX1 9 1 2 := ⟨RX1, TX1, 5, rfl, by decide, rfl, fX1_9⟩
theorem gX1_22 : Fq RX1 22 1 3 := ⟨RX1, TX1, 5, rfl, by decide, rfl, fX1_22⟩
theorem pX1_22 : Fp RX1 22 1 3 := ⟨RX1, TX1, 5, tyX1, rfl, by decide, rfl, fX1_22, okX1, nmX1, rfl, by decide +kernel⟩
theorem gX1_19 : Fq RX1 19 1 4 := ⟨RX1, TX1, 5, rfl, by decide, rfl, fX1_19⟩
theorem pX1_19 : Fp RX1 19 1 4 := ⟨RX1, TX1, 5, tyX1, rfl, by decide, rfl, fX1_19, okX1, nmX1, rfl, by decide +kernel⟩
theorem gX4_7 : Fq RX4 7 4 0 := ⟨RX4, TX4, 3, rfl, by decide, rfl, fX4_7⟩
theorem pX4_7 : Fp RX4 7 4 0 := ⟨RX4, TX4, 3, tyX4, rfl, by decide, rfl, fX4_7, okX4, nmX4, rfl, by decide +kernel⟩
theorem gX11_383 : Fq RX11 383 4 0 := ⟨RX4, TX4, 3, rfl, by decide, rfl, fX11_383⟩
theorem pX11_383 : Fp RX11 383 4 0 := ⟨RX4, TX4, 3, tyX4, rfl, by decide, rfl, fX11_383, okX4, nmX4, rfl, by decide +kernel⟩
theorem gX4_13 : Fq RX4 13 4 1 := ⟨RX4, TX4, 3, rfl, by decide, rfl, fX4_13⟩
theorem pX4_13 : Fp RX4 13 4 1 := ⟨RX4, TX4, 3, tyX4, rfl, by decide, rfl, fX4_13, okX4, nmX4, rfl, by decide +kernel⟩
theorem gX4_16 : Fq RX4 16 4 2 := ⟨RX4, TX4, 3, rfl, by decide, rfl, fX4_16⟩
theorem pX4_16 : Fp RX4 16 4 2 := ⟨RX4, TX4, 3, tyX4, rfl, by decide, rfl, fX4_16, okX4, nmX4, rfl, by decide +kernel⟩
theorem gX9_9 : Fq RX9 9 9 0 := ⟨RX9, TX9, 5, rfl, by decide, rfl, fX9_9⟩
theorem gX9_15 : Fq RX9 15 9 1 := ⟨RX9, TX9, 5, rfl, by decide, rfl, fX9_15⟩
theorem gX9_19 : Fq RX9 19 9 2 := ⟨RX9, TX9, 5, rfl, by decide, rfl, fX9_19⟩
theorem gX9_23 : Fq RX9 23 9 3 := ⟨RX9, TX9, 5, rfl, by decide, rfl, fX9_23⟩
theorem gX9_26 : Fq RX9 26 9 4 := ⟨RX9, TX9, 5, rfl, by decide, rfl, fX9_26⟩
theorem gX11_9 : Fq RX11 9 11 0 := ⟨RX11, TX11, 17, rfl, by decide, rfl, fX11_9⟩
theorem gX11_95 : Fq RX11 95 11 1 := ⟨RX11, TX11, 17, rfl, by decide, rfl, fX11_95⟩
theorem pX11_95 : Fp RX11 95 11 1 := ⟨RX11, TX11, 17, tyX11, rfl, by decide, rfl, fX11_95, okX11, nmX11, rfl, by decide +kernel⟩
theorem gX11_92 : Fq RX11 92 11 2 := ⟨RX11, TX11, 17, rfl, by decide, rfl, fX11_92⟩
theorem pX11_92 : Fp RX11 92 11 2 := ⟨RX11, TX11, 17, tyX11, rfl, by decide, rfl, fX11_92, okX11, nmX11, rfl, by decide +kernel⟩
theorem gX11_13 : Fq RX11 13 11 3 := ⟨RX11, TX11, 17, rfl, by decide, rfl, fX11_13⟩
theorem pX11_13 : Fp RX11 13 11 3 := ⟨RX11, TX11, 17, tyX11, rfl, by decide, rfl, fX11_13, okX11, nmX11, rfl, by decide +kernel⟩
theorem gX11_17 : Fq RX11 17 11 4 := ⟨RX11, TX11, 17, rfl, by decide, rfl, fX11_17⟩
theorem pX11_17 : Fp RX11 17 11 4 := ⟨RX11, TX11, 17, tyX11, rfl, by decide, rfl, fX11_17, okX11, nmX11, rfl, by decide +kernel⟩
theorem gX11_23 : Fq RX11 23 11 5 := ⟨RX11, TX11, 17, rfl, by decide, rfl, fX11_23⟩
theorem gX11_27 : Fq RX11 27 11 6 := ⟨RX11, TX11, 17, rfl, by decide, rfl, fX11_27⟩
theorem gX11_30 : Fq RX11 30 11 7 := ⟨RX11, TX11, 17, rfl, by decide, rfl, fX11_30⟩
theorem gX11_150 : Fq RX11 150 11 8 := ⟨RX11, TX11, 17, rfl, by decide, rfl, fX11_150⟩
theorem pX11_150 : Fp RX11 150 11 8 := ⟨RX11, TX11, 17, tyX11, rfl, by decide, rfl, fX11_150, okX11, nmX11, rfl, by decide +kernel⟩
theorem gX11_37 : Fq RX11 37 11 9 := ⟨RX11, TX11, 17, rfl, by decide, rfl, fX11_37⟩
theorem gX11_44 : Fq RX11 44 11 10 := ⟨RX11, TX11, 17, rfl, by decide, rfl, fX11_44⟩
theorem gX11_51 : Fq RX11 51 11 11 := ⟨RX11, TX11, 17, rfl, by decide, rfl, fX11_51⟩
theorem gX11_58 : Fq RX11 58 11 12 := ⟨RX11, TX11, 17, rfl, by decide, rfl, fX11_58⟩
theorem gX11_65 : Fq RX11 65 11 13 := ⟨RX11, TX11, 17, rfl, by decide, rfl, fX11_65⟩
theorem gX11_72 : Fq RX11 72 11 14 := ⟨RX11, TX11, 17, rfl, by decide, rfl, fX11_72⟩
theorem gX11_79 : Fq RX11 79 11 15 := ⟨RX11, TX11, 17, rfl, by decide, rfl, fX11_79⟩
theorem gX11_88 : Fq RX11 88 11 16 := ⟨RX11, TX11, 17, rfl, by decide, rfl, fX11_88⟩
theorem gX12_7 : Fq RX12 7 12 0 := ⟨RX12, TX12, 31, rfl, by decide, rfl, fX12_7⟩
theorem gX12_54 : Fq RX12 54 12 1 := ⟨RX12, TX12, 31, rfl, by decide, rfl, fX12_54⟩
theorem pX12_54 : Fp RX12 54 12 1 := ⟨RX12, TX12, 31, tyX12, rfl, by decide, rfl, fX12_54, okX12, nmX12, rfl, by decide +kernel⟩
theorem gX12_284 : Fq RX12 284 12 2 := ⟨RX12, TX12, 31, rfl, by decide, rfl, fX12_284⟩
theorem pX12_284 : Fp RX12 284 12 2 := ⟨RX12, TX12, 31, tyX12, rfl, by decide, rfl, fX12_284, okX12, nmX12, rfl, by decide +kernel⟩
theorem gX12_13 : Fq RX12 13 12 3 := ⟨RX12, TX12, 31, rfl, by decide, rfl, fX12_13⟩
theorem gX12_89 : Fq RX12 89 12 4 := ⟨RX12, TX12, 31, rfl, by decide, rfl, fX12_89⟩
theorem pX12_89 : Fp RX12 89 12 4 := ⟨RX12, TX12, 31, tyX12, rfl, by decide, rfl, fX12_89, okX12, nmX12, rfl, by decide +kernel⟩
theorem gX12_96 : Fq RX12 96 12 5 := ⟨RX12, TX12, 31, rfl, by decide, rfl, fX12_96⟩
theorem pX12_96 : Fp RX12 96 12 5 := ⟨RX12, TX12, 31, tyX12, rfl, by decide, rfl, fX12_96, okX12, nmX12, rfl, by decide +kernel⟩
theorem gX12_105 : Fq RX12 105 12 6 := ⟨RX12, TX12, 31, rfl, by decide, rfl, fX12_105⟩
theorem pX12_105 : Fp RX12 105 12 6 := ⟨RX12, TX12, 31, tyX12, rfl, by decide, rfl, fX12_105, okX12, nmX12, rfl, by decide +kernel⟩
theorem gX12_111 : Fq RX12 111 12 7 := ⟨RX12, TX12, 31, rfl, by decide, rfl, fX12_111⟩
theorem pX12_111 : Fp RX12 111 12 7 := ⟨RX12, TX12, 31, tyX12, rfl, by decide, rfl, fX12_111, okX12, nmX12, rfl, by decide +kernel⟩
theorem gX12_16 : Fq RX12 16 12 8 := ⟨RX12, TX12, 31, rfl, by decide, rfl, fX12_16⟩
theorem gX12_19 : Fq RX12 19 12 9 := ⟨RX12, TX12, 31, rfl, by decide, rfl, fX12_19⟩
theorem gX12_22 : Fq RX12 22 12 10 := ⟨RX12, TX12, 31, rfl, by decide, rfl, fX12_22⟩
theorem gX12_25 : Fq RX12 25 12 11 := ⟨RX12, TX12, 31, rfl, by decide, rfl, fX12_25⟩
theorem gX12_144 : Fq RX12 144 12 12 := ⟨RX12, TX12, 31, rfl, by decide, rfl, fX12_144⟩
theorem pX12_144 : Fp RX12 144 12 12 := ⟨RX12, TX12, 31, tyX12, rfl, by decide, rfl, fX12_144, okX12, nmX12, rfl, by decide +kernel⟩
theorem gX12_147 : Fq RX12 147 12 13 := ⟨RX12, TX12, 31, rfl, by decide, rfl, fX12_147⟩
theorem pX12_147 : Fp RX12 147 12 13 := ⟨RX12, TX12, 31, tyX12, rfl, by decide, rfl, fX12_147, okX12, nmX12, rfl, by decide +kernel⟩
theorem gX12_150 : Fq RX12 150 12 14 := ⟨RX12, TX12, 31, rfl, by decide, rfl, fX12_150⟩
theorem pX12_150 : Fp RX12 150 12 14 := ⟨RX12, TX12, 31, tyX12, rfl, by decide, rfl, fX12_150, okX12, nmX12, rfl, by decide +kernel⟩
theorem gX12_28 : Fq RX12 28 12 15 := ⟨RX12, TX12, 31, rfl, by decide, rfl, fX12_28⟩
theorem gX12_32 : Fq RX12 32 12 16 := ⟨RX12, TX12, 31, rfl, by decide, rfl, fX12_32⟩
theorem gX12_178 : Fq RX12 178 12 17 := ⟨RX12, TX12, 31, rfl, by decide, rfl, fX12_178⟩
theorem pX12_178 : Fp RX12 178 12 17 := ⟨RX12, TX12, 31, tyX12, rfl, by decide, rfl, fX12_178, okX12, nmX12, rfl, by decide +kernel⟩
theorem gX12_184 : Fq RX12 184 12 18 := ⟨RX12, TX12, 31, rfl, by decide, rfl, fX12_184⟩
theorem pX12_184 : Fp RX12 184 12 18 := ⟨RX12, TX12, 31, tyX12, rfl, by decide, rfl, fX12_184, okX12, nmX12, rfl, by decide +kernel⟩
theorem gX12_196 : Fq RX12 196 12 19 := ⟨RX12, TX12, 31, rfl, by decide, rfl, fX12_196⟩
theorem pX12_196 : Fp RX12 196 12 19 := ⟨RX12, TX12, 31, tyX12, rfl, by decide, rfl, fX12_196, okX12, nmX12, rfl, by decide +kernel⟩
theorem gX12_193 : Fq RX12 193 12 20 := ⟨RX12, TX12, 31, rfl, by decide, rfl, fX12_193⟩
theorem pX12_193 : Fp RX12 193 12 20 := ⟨RX12, TX12, 31, tyX12, rfl, by decide, rfl, fX12_193, okX12, nmX12, rfl, by decide +kernel⟩
theorem gX12_187 : Fq RX12 187 12 21 := ⟨RX12, TX12, 31, rfl, by decide, rfl, fX12_187⟩
theorem pX12_187 : Fp RX12 187 12 21 := ⟨RX12, TX12, 31, tyX12, rfl, by decide, rfl, fX12_187, okX12, nmX12, rfl, by decide +kernel⟩
theorem gX12_205 : Fq RX12 205 12 22 := ⟨RX12, TX12, 31, rfl, by decide, rfl, fX12_205⟩
theorem pX12_205 : Fp RX12 205 12 22 := ⟨RX12, TX12, 31, tyX12, rfl, by decide, rfl, fX12_205, okX12, nmX12, rfl, by decide +kernel⟩
theorem gX12_223 : Fq RX12 223 12 23 := ⟨RX12, TX12, 31, rfl, by decide, rfl, fX12_223⟩
theorem pX12_223 : Fp RX12 223 12 23 := ⟨RX12, TX12, 31, tyX12, rfl, by decide, rfl, fX12_223, okX12, nmX12, rfl, by decide +kernel⟩
theorem gX12_35 : Fq RX12 35 12 24 := ⟨RX12, TX12, 31, rfl, by decide, rfl, fX12_35⟩
theorem pX12_35 : Fp RX12 35 12 24 := ⟨RX12, TX12, 31, tyX12, rfl, by decide, rfl, fX12_35, okX12, nmX12, rfl, by decide +kernel⟩
theorem gX12_39 : Fq RX12 39 12 25 := ⟨RX12, TX12, 31, rfl, by decide, rfl, fX12_39⟩
theorem pX12_39 : Fp RX12 39 12 25 := ⟨RX12, TX12, 31, tyX12, rfl, by decide, rfl, fX12_39, okX12, nmX12, rfl, by decide +kernel⟩
theorem gX12_247 : Fq RX12 247 12 26 := ⟨RX12, TX12, 31, rfl, by decide, rfl, fX12_247⟩
theorem pX12_247 : Fp RX12 247 12 26 := ⟨RX12, TX12, 31, tyX12, rfl, by decide, rfl, fX12_247, okX12, nmX12, rfl, by decide +kernel⟩
theorem gX12_42 : Fq RX12 42 12 27 := ⟨RX12, TX12, 31, rfl, by decide, rfl, fX12_42⟩
theorem gX12_45 : Fq RX12 45 12 28 := ⟨RX12, TX12, 31, rfl, by decide, rfl, fX12_45⟩
theorem gX12_48 : Fq RX12 48 12 29 := ⟨RX12, TX12, 31, rfl, by decide, rfl, fX12_48⟩
theorem gX12_312 : Fq RX12 312 12 30 := ⟨RX12, TX12, 31, rfl, by decide, rfl, fX12_312⟩
theorem pX12_312 : Fp RX12 312 12 30 := ⟨RX12, TX12, 31, tyX12, rfl, by decide, rfl, fX12_312, okX12, nmX12, rfl, by decide +kernel⟩
