/-! the world: the cells of the class, each slot at an address of one memory -/
abbrev Mem : Type := Nat → Int32
/-- an object (its class, its slots: a cell or an address); an array (0 ints, 1 bytes, 2 of meshes; length; addresses) -/
abbrev Sh : Type := (Nat × List (Nat ⊕ Nat)) ⊕ (Nat × Nat × (Nat → Nat))
abbrev Wd : Type := (Nat → Nat) × va_G × (ClassId × ClassId × ClassId) × ((Nat → Nat) × (Nat → Nat))
def mc (m o : Nat) : Nat := 23 + 18 * m + o
def vb (m : Nat) : Nat := 10000 + 528 * m
def tr (c : Nat) : Nat := c % 8 * 8 + c / 8
def S0 : List (Nat ⊕ Nat) := [.inl 1, .inr 14002, .inr 14000, .inr 14003, .inr 14004, .inl (mc 0 0), .inl (mc 1 0), .inl 2, .inr 14001, .inl 3, .inl 6, .inl 8, .inl 11, .inl 13, .inl 16, .inl 18, .inl 19]
def S3 : List (Nat ⊕ Nat) := [.inr 15000, .inr 15001, .inl 4, .inr 15002, .inr 15003, .inr 15004, .inr 15005, .inl 5, .inr 15006]
def S6 : List (Nat ⊕ Nat) := [.inl 7, .inr 15013]
def S8 : List (Nat ⊕ Nat) := [.inl 9, .inl 10]
def S11 : List (Nat ⊕ Nat) := [.inl 12, .inr 15020, .inr 15021, .inr 15022]
def S13 : List (Nat ⊕ Nat) := [.inr 15030, .inl 14, .inl 15]
def S16 : List (Nat ⊕ Nat) := [.inr 15040, .inr 15041, .inl 17, .inr 15042, .inr 15043]
def S18 : List (Nat ⊕ Nat) := [.inr 14902, .inr 14900, .inr 14901]
def S19 : List (Nat ⊕ Nat) := [.inl 6, .inl 16, .inl 20, .inl 21, .inl 22]
def SM0 (m : Nat) : List (Nat ⊕ Nat) := [.inr (vb m + 0), .inr (vb m + 1), .inr (vb m + 2), .inr (vb m + 3), .inr (vb m + 4), .inr (vb m + 5), .inr (vb m + 6), .inl (mc m 1), .inl (mc m 2), .inl (mc m 3), .inl (mc m 4), .inl (mc m 11)]
def SM4 (m : Nat) : List (Nat ⊕ Nat) := [.inl (mc m 5), .inl (mc m 6), .inl (mc m 7), .inl (mc m 8), .inl (mc m 9), .inl (mc m 10)]
def SM11 (m : Nat) : List (Nat ⊕ Nat) := [.inl (mc m 12), .inl (mc m 13), .inl (mc m 14), .inl (mc m 15), .inl (mc m 16), .inl (mc m 17), .inr (vb m + 7), .inr (vb m + 8), .inr (vb m + 9)]
def shF (i : Nat) : Sh := match i with
  | 0 => .inl (11, S0)
  | 1 => .inr (1, 400, fun j => 14100 + j)
  | 2 => .inr (2, 4, fun j => mc (2 + j) 0)
  | 3 => .inl (7, S3)
  | 4 => .inr (1, 400, fun j => 15600 + j)
  | 5 => .inr (0, 3, fun j => 15010 + j)
  | 6 => .inl (0, S6)
  | 7 => .inr (0, 8, fun j => 15100 + j)
  | 8 => .inl (8, S8)
  | 9 => .inr (0, 64, fun j => 15200 + j)
  | 10 => .inr (0, 64, fun j => 15264 + j)
  | 11 => .inl (2, S11)
  | 12 => .inr (0, 9, fun j => 15170 + j)
  | 13 => .inl (10, S13)
  | 14 => .inr (0, 8, fun j => 15180 + j)
  | 15 => .inr (0, 64, fun j => 15330 + j)
  | 16 => .inl (1, S16)
  | 17 => .inr (0, 8, fun j => 15140 + j)
  | 18 => .inl (4, S18)
  | 19 => .inl (9, S19)
  | 20 => .inr (0, 8, fun j => 15110 + j)
  | 21 => .inr (0, 8, fun j => 15120 + j)
  | 22 => .inr (0, 8, fun j => 15130 + j)
  | _ => .inr (0, 0, fun j => 0)
def shM (m o : Nat) : Sh := match o with
  | 0 => .inl (5, SM0 m)
  | 1 => .inr (0, 8, fun j => vb m + (16 + j))
  | 2 => .inr (0, 8, fun j => vb m + (24 + j))
  | 3 => .inr (0, 64, fun j => vb m + (208 + tr j))
  | 4 => .inl (3, SM4 m)
  | 5 => .inr (0, 64, fun j => vb m + (80 + j))
  | 6 => .inr (0, 64, fun j => vb m + (144 + j))
  | 7 => .inr (0, 8, fun j => vb m + (56 + j))
  | 8 => .inr (0, 8, fun j => vb m + (64 + j))
  | 9 => .inr (0, 8, fun j => vb m + (72 + j))
  | 10 => .inr (0, 8, fun j => vb m + (48 + j))
  | 11 => .inl (6, SM11 m)
  | 12 => .inr (0, 64, fun j => vb m + (272 + j))
  | 13 => .inr (0, 64, fun j => vb m + (336 + j))
  | 14 => .inr (0, 64, fun j => vb m + (400 + j))
  | 15 => .inr (0, 8, fun j => vb m + (32 + j))
  | 16 => .inr (0, 8, fun j => vb m + (40 + j))
  | 17 => .inr (0, 64, fun j => vb m + (464 + j))
  | _ => .inr (0, 0, fun j => 0)
def sh (i : Nat) : Sh := if i < 23 then shF i else shM ((i - 23) / 18) ((i - 23) % 18)
def sa (s : Sh) (k : Nat) : Option Nat := match s with
  | .inl (_, fs) => match fs[k]? with
    | some (.inr v) => some v
    | _ => none
  | .inr (t, n, f) => if t ≠ 2 ∧ k < n then some (f k) else none
def slen : Sh → Nat
  | .inl (_, fs) => fs.length
  | .inr (_, n, _) => n
def invR : List (Nat × Nat × Nat × Nat) := [(14000, 14001, 0, 2), (14001, 14002, 0, 8), (14002, 14003, 0, 1), (14003, 14004, 0, 3), (14004, 14005, 0, 4), (14100, 14500, 1, 0), (14900, 14901, 18, 1), (14901, 14902, 18, 2), (14902, 14903, 18, 0), (15000, 15001, 3, 0), (15001, 15002, 3, 1), (15002, 15003, 3, 3), (15003, 15004, 3, 4), (15004, 15005, 3, 5), (15005, 15006, 3, 6), (15006, 15007, 3, 8), (15010, 15013, 5, 0), (15013, 15014, 6, 1), (15020, 15021, 11, 1), (15021, 15022, 11, 2), (15022, 15023, 11, 3), (15030, 15031, 13, 0), (15040, 15041, 16, 0), (15041, 15042, 16, 1), (15042, 15043, 16, 3), (15043, 15044, 16, 4), (15100, 15108, 7, 0), (15110, 15118, 20, 0), (15120, 15128, 21, 0), (15130, 15138, 22, 0), (15140, 15148, 17, 0), (15170, 15179, 12, 0), (15180, 15188, 14, 0), (15200, 15264, 9, 0), (15264, 15328, 10, 0), (15330, 15394, 15, 0), (15600, 16000, 4, 0)]
def invM : List (Nat × Nat × Nat × Nat) := [(0, 1, 0, 0), (1, 2, 0, 1), (2, 3, 0, 2), (3, 4, 0, 3), (4, 5, 0, 4), (5, 6, 0, 5), (6, 7, 0, 6), (7, 8, 11, 6), (8, 9, 11, 7), (9, 10, 11, 8), (16, 24, 1, 0), (24, 32, 2, 0), (32, 40, 15, 0), (40, 48, 16, 0), (48, 56, 10, 0), (56, 64, 7, 0), (64, 72, 8, 0), (72, 80, 9, 0), (80, 144, 5, 0), (144, 208, 6, 0), (272, 336, 12, 0), (336, 400, 13, 0), (400, 464, 14, 0), (464, 528, 17, 0)]
def invL : List (Nat × Nat × Nat × Nat) → Nat → Nat × Nat
  | [], _ => (1000, 0)
  | (lo, hi, c, k) :: r, v => if lo ≤ v ∧ v < hi then (c, k + (v - lo)) else invL r v
def inv (v : Nat) : Nat × Nat := if 10000 ≤ v ∧ v < 13168 then
    (if 208 ≤ (v - 10000) % 528 ∧ (v - 10000) % 528 < 272 then (mc ((v - 10000) / 528) 3, tr ((v - 10000) % 528 - 208)) else
      (mc ((v - 10000) / 528) (invL invM ((v - 10000) % 528)).1, (invL invM ((v - 10000) % 528)).2))
  else invL invR v
def chk (i : Nat) : Bool := (List.range (slen (sh i))).all fun k => match sa (sh i) k with
  | some v => inv v == (i, k)
  | none => true
set_option maxRecDepth 100000 in
theorem chk_all : (List.range 131).all chk = true := by decide +kernel
theorem sa_lt {s : Sh} {k v : Nat} (h : sa s k = some v) : k < slen s := by
  obtain ⟨ci, fs⟩ | ⟨t, n, f⟩ := s
  · simp only [sa] at h
    simp only [slen]
    rcases Nat.lt_or_ge k fs.length with q | q
    · exact q
    · rw [List.getElem?_eq_none q] at h; cases h
  · simp only [sa] at h
    simp only [slen]
    split at h
    · next q => exact q.2
    · cases h
/-- each address is one slot's -/
theorem inv_sa {i k v : Nat} (hi : i < 131) (h : sa (sh i) k = some v) : inv v = (i, k) := by
  have h1 := List.all_eq_true.mp chk_all i (List.mem_range.mpr hi)
  have h2 := List.all_eq_true.mp h1 k (List.mem_range.mpr (sa_lt h))
  rw [h] at h2
  simpa using h2
def lenok (i : Nat) : Bool := decide (slen (sh i) < 4000)
theorem len_all : (List.range 131).all lenok = true := by decide +kernel
theorem sh_len {i t n : Nat} {f : Nat → Nat} (hi : i < 131) (h : sh i = .inr (t, n, f)) : n < 4000 := by
  have h1 := List.all_eq_true.mp len_all i (List.mem_range.mpr hi)
  simp only [lenok, h, slen, decide_eq_true_eq] at h1
  exact h1
abbrev Sc (i : Nat) (s : Sh) : Prop := i < 131 ∧ sh i = s
theorem sc_0 : Sc 0 (.inl (11, S0)) := ⟨by decide, rfl⟩
theorem sc_1 : Sc 1 (.inr (1, 400, fun j => 14100 + j)) := ⟨by decide, rfl⟩
theorem sc_2 : Sc 2 (.inr (2, 4, fun j => mc (2 + j) 0)) := ⟨by decide, rfl⟩
theorem sc_3 : Sc 3 (.inl (7, S3)) := ⟨by decide, rfl⟩
theorem sc_4 : Sc 4 (.inr (1, 400, fun j => 15600 + j)) := ⟨by decide, rfl⟩
theorem sc_5 : Sc 5 (.inr (0, 3, fun j => 15010 + j)) := ⟨by decide, rfl⟩
theorem sc_6 : Sc 6 (.inl (0, S6)) := ⟨by decide, rfl⟩
theorem sc_7 : Sc 7 (.inr (0, 8, fun j => 15100 + j)) := ⟨by decide, rfl⟩
theorem sc_8 : Sc 8 (.inl (8, S8)) := ⟨by decide, rfl⟩
theorem sc_9 : Sc 9 (.inr (0, 64, fun j => 15200 + j)) := ⟨by decide, rfl⟩
theorem sc_10 : Sc 10 (.inr (0, 64, fun j => 15264 + j)) := ⟨by decide, rfl⟩
theorem sc_11 : Sc 11 (.inl (2, S11)) := ⟨by decide, rfl⟩
theorem sc_12 : Sc 12 (.inr (0, 9, fun j => 15170 + j)) := ⟨by decide, rfl⟩
theorem sc_13 : Sc 13 (.inl (10, S13)) := ⟨by decide, rfl⟩
theorem sc_14 : Sc 14 (.inr (0, 8, fun j => 15180 + j)) := ⟨by decide, rfl⟩
theorem sc_15 : Sc 15 (.inr (0, 64, fun j => 15330 + j)) := ⟨by decide, rfl⟩
theorem sc_16 : Sc 16 (.inl (1, S16)) := ⟨by decide, rfl⟩
theorem sc_17 : Sc 17 (.inr (0, 8, fun j => 15140 + j)) := ⟨by decide, rfl⟩
theorem sc_18 : Sc 18 (.inl (4, S18)) := ⟨by decide, rfl⟩
theorem sc_19 : Sc 19 (.inl (9, S19)) := ⟨by decide, rfl⟩
theorem sc_20 : Sc 20 (.inr (0, 8, fun j => 15110 + j)) := ⟨by decide, rfl⟩
theorem sc_21 : Sc 21 (.inr (0, 8, fun j => 15120 + j)) := ⟨by decide, rfl⟩
theorem sc_22 : Sc 22 (.inr (0, 8, fun j => 15130 + j)) := ⟨by decide, rfl⟩
theorem sh_mc {m o : Nat} (hm : m < 6) (ho : o < 18) : mc m o < 131 ∧ sh (mc m o) = shM m o := by
  have h0 : ¬ mc m o < 23 := by unfold mc; omega
  have h1 : (mc m o - 23) / 18 = m := by unfold mc; omega
  have h2 : (mc m o - 23) % 18 = o := by unfold mc; omega
  refine ⟨by unfold mc; omega, ?_⟩
  unfold sh
  rw [if_neg h0, h1, h2]
theorem sM_0 {m : Nat} (hm : m < 6) : Sc (mc m 0) (.inl (5, SM0 m)) := sh_mc hm (by decide)
theorem sM_1 {m : Nat} (hm : m < 6) : Sc (mc m 1) (.inr (0, 8, fun j => vb m + (16 + j))) := sh_mc hm (by decide)
theorem sM_2 {m : Nat} (hm : m < 6) : Sc (mc m 2) (.inr (0, 8, fun j => vb m + (24 + j))) := sh_mc hm (by decide)
theorem sM_3 {m : Nat} (hm : m < 6) : Sc (mc m 3) (.inr (0, 64, fun j => vb m + (208 + tr j))) := sh_mc hm (by decide)
theorem sM_4 {m : Nat} (hm : m < 6) : Sc (mc m 4) (.inl (3, SM4 m)) := sh_mc hm (by decide)
theorem sM_5 {m : Nat} (hm : m < 6) : Sc (mc m 5) (.inr (0, 64, fun j => vb m + (80 + j))) := sh_mc hm (by decide)
theorem sM_6 {m : Nat} (hm : m < 6) : Sc (mc m 6) (.inr (0, 64, fun j => vb m + (144 + j))) := sh_mc hm (by decide)
theorem sM_7 {m : Nat} (hm : m < 6) : Sc (mc m 7) (.inr (0, 8, fun j => vb m + (56 + j))) := sh_mc hm (by decide)
theorem sM_8 {m : Nat} (hm : m < 6) : Sc (mc m 8) (.inr (0, 8, fun j => vb m + (64 + j))) := sh_mc hm (by decide)
theorem sM_9 {m : Nat} (hm : m < 6) : Sc (mc m 9) (.inr (0, 8, fun j => vb m + (72 + j))) := sh_mc hm (by decide)
theorem sM_10 {m : Nat} (hm : m < 6) : Sc (mc m 10) (.inr (0, 8, fun j => vb m + (48 + j))) := sh_mc hm (by decide)
theorem sM_11 {m : Nat} (hm : m < 6) : Sc (mc m 11) (.inl (6, SM11 m)) := sh_mc hm (by decide)
theorem sM_12 {m : Nat} (hm : m < 6) : Sc (mc m 12) (.inr (0, 64, fun j => vb m + (272 + j))) := sh_mc hm (by decide)
theorem sM_13 {m : Nat} (hm : m < 6) : Sc (mc m 13) (.inr (0, 64, fun j => vb m + (336 + j))) := sh_mc hm (by decide)
theorem sM_14 {m : Nat} (hm : m < 6) : Sc (mc m 14) (.inr (0, 64, fun j => vb m + (400 + j))) := sh_mc hm (by decide)
theorem sM_15 {m : Nat} (hm : m < 6) : Sc (mc m 15) (.inr (0, 8, fun j => vb m + (32 + j))) := sh_mc hm (by decide)
theorem sM_16 {m : Nat} (hm : m < 6) : Sc (mc m 16) (.inr (0, 8, fun j => vb m + (40 + j))) := sh_mc hm (by decide)
theorem sM_17 {m : Nat} (hm : m < 6) : Sc (mc m 17) (.inr (0, 64, fun j => vb m + (464 + j))) := sh_mc hm (by decide)
/-- a field that code of 'own' reads at idx: the k-th slot of objects of the ci-th class -/
def Fq (own : String) (idx ci k : Nat) : Prop := ∃ (C : String) (T : u_T) (N : Nat), vwCl[ci]? = some (C, T, N) ∧ k < N ∧ (T k).1 = C ∧ Fl own idx C T N k
/-- .. and writes: an int, not final -/
def Fp (own : String) (idx ci k : Nat) : Prop := ∃ (C : String) (T : u_T) (N : Nat) (ty0 : Nat → FieldType), vwCl[ci]? = some (C, T, N) ∧ k < N ∧ (T k).1 = C ∧ Fl own idx C T N k ∧ (∀ k, k < N → parseFieldDescriptor (T k).2.2.1 = some (ty0 k)) ∧ (∀ a, a < N → ∀ b, b < N → a ≠ b → (T a).2.1 ≠ (T b).2.1) ∧ (T k).2.2.2 = false ∧ parseFieldDescriptor (T k).2.2.1 = some .int
theorem gX3_9 : Fq RX3 9 3 0 := ⟨RX3, TX3, 6, rfl, by decide, rfl, fX3_9⟩
theorem gX9_118 : Fq RX9 118 3 0 := ⟨RX3, TX3, 6, rfl, by decide, rfl, fX9_118⟩
theorem gX11_212 : Fq RX11 212 3 0 := ⟨RX3, TX3, 6, rfl, by decide, rfl, fX11_212⟩
theorem gX3_15 : Fq RX3 15 3 1 := ⟨RX3, TX3, 6, rfl, by decide, rfl, fX3_15⟩
theorem gX0_53 : Fq RX0 53 3 1 := ⟨RX3, TX3, 6, rfl, by decide, rfl, fX0_53⟩
theorem gX9_139 : Fq RX9 139 3 1 := ⟨RX3, TX3, 6, rfl, by decide, rfl, fX9_139⟩
theorem gX11_222 : Fq RX11 222 3 1 := ⟨RX3, TX3, 6, rfl, by decide, rfl, fX11_222⟩
theorem gX3_18 : Fq RX3 18 3 2 := ⟨RX3, TX3, 6, rfl, by decide, rfl, fX3_18⟩
theorem gX9_84 : Fq RX9 84 3 2 := ⟨RX3, TX3, 6, rfl, by decide, rfl, fX9_84⟩
theorem gX11_185 : Fq RX11 185 3 2 := ⟨RX3, TX3, 6, rfl, by decide, rfl, fX11_185⟩
theorem gX3_21 : Fq RX3 21 3 3 := ⟨RX3, TX3, 6, rfl, by decide, rfl, fX3_21⟩
theorem gX0_25 : Fq RX0 25 3 3 := ⟨RX3, TX3, 6, rfl, by decide, rfl, fX0_25⟩
theorem gX1_41 : Fq RX1 41 3 3 := ⟨RX3, TX3, 6, rfl, by decide, rfl, fX1_41⟩
theorem gX9_93 : Fq RX9 93 3 3 := ⟨RX3, TX3, 6, rfl, by decide, rfl, fX9_93⟩
theorem gX11_190 : Fq RX11 190 3 3 := ⟨RX3, TX3, 6, rfl, by decide, rfl, fX11_190⟩
theorem gX3_24 : Fq RX3 24 3 4 := ⟨RX3, TX3, 6, rfl, by decide, rfl, fX3_24⟩
theorem gX1_63 : Fq RX1 63 3 4 := ⟨RX3, TX3, 6, rfl, by decide, rfl, fX1_63⟩
theorem gX9_136 : Fq RX9 136 3 4 := ⟨RX3, TX3, 6, rfl, by decide, rfl, fX9_136⟩
theorem gX11_200 : Fq RX11 200 3 4 := ⟨RX3, TX3, 6, rfl, by decide, rfl, fX11_200⟩
theorem gX3_27 : Fq RX3 27 3 5 := ⟨RX3, TX3, 6, rfl, by decide, rfl, fX3_27⟩
theorem gX9_54 : Fq RX9 54 3 5 := ⟨RX3, TX3, 6, rfl, by decide, rfl, fX9_54⟩
theorem gX11_197 : Fq RX11 197 3 5 := ⟨RX3, TX3, 6, rfl, by decide, rfl, fX11_197⟩
theorem gX6_9 : Fq RX6 9 6 0 := ⟨RX6, TX6, 9, rfl, by decide, rfl, fX6_9⟩
theorem gX6_15 : Fq RX6 15 6 1 := ⟨RX6, TX6, 9, rfl, by decide, rfl, fX6_15⟩
theorem gX6_18 : Fq RX6 18 6 2 := ⟨RX6, TX6, 9, rfl, by decide, rfl, fX6_18⟩
theorem gX6_21 : Fq RX6 21 6 3 := ⟨RX6, TX6, 9, rfl, by decide, rfl, fX6_21⟩
theorem gX1_78 : Fq RX1 78 6 3 := ⟨RX6, TX6, 9, rfl, by decide, rfl, fX1_78⟩
theorem gX11_178 : Fq RX11 178 6 3 := ⟨RX6, TX6, 9, rfl, by decide, rfl, fX11_178⟩
theorem gX6_24 : Fq RX6 24 6 4 := ⟨RX6, TX6, 9, rfl, by decide, rfl, fX6_24⟩
theorem gX1_83 : Fq RX1 83 6 4 := ⟨RX6, TX6, 9, rfl, by decide, rfl, fX1_83⟩
theorem gX11_203 : Fq RX11 203 6 4 := ⟨RX6, TX6, 9, rfl, by decide, rfl, fX11_203⟩
theorem gX6_27 : Fq RX6 27 6 5 := ⟨RX6, TX6, 9, rfl, by decide, rfl, fX6_27⟩
theorem gX6_36 : Fq RX6 36 6 6 := ⟨RX6, TX6, 9, rfl, by decide, rfl, fX6_36⟩
theorem pX6_36 : Fp RX6 36 6 6 := ⟨RX6, TX6, 9, tyX6, rfl, by decide, rfl, fX6_36, okX6, nmX6, rfl, by decide +kernel⟩
theorem gX6_40 : Fq RX6 40 6 7 := ⟨RX6, TX6, 9, rfl, by decide, rfl, fX6_40⟩
theorem pX6_40 : Fp RX6 40 6 7 := ⟨RX6, TX6, 9, tyX6, rfl, by decide, rfl, fX6_40, okX6, nmX6, rfl, by decide +kernel⟩
theorem gX6_43 : Fq RX6 43 6 8 := ⟨RX6, TX6, 9, rfl, by decide, rfl, fX6_43⟩
theorem pX6_43 : Fp RX6 43 6 8 := ⟨RX6, TX6, 9, tyX6, rfl, by decide, rfl, fX6_43, okX6, nmX6, rfl, by decide +kernel⟩
theorem gX0_15 : Fq RX0 15 5 0 := ⟨RX5, TX5, 12, rfl, by decide, rfl, fX0_15⟩
theorem pX0_15 : Fp RX0 15 5 0 := ⟨RX5, TX5, 12, tyX5, rfl, by decide, rfl, fX0_15, okX5, nmX5, rfl, by decide +kernel⟩
theorem gX9_47 : Fq RX9 47 5 0 := ⟨RX5, TX5, 12, rfl, by decide, rfl, fX9_47⟩
theorem pX9_47 : Fp RX9 47 5 0 := ⟨RX5, TX5, 12, tyX5, rfl, by decide, rfl, fX9_47, okX5, nmX5, rfl, by decide +kernel⟩
theorem gX1_32 : Fq RX1 32 5 0 := ⟨RX5, TX5, 12, rfl, by decide, rfl, fX1_32⟩
theorem pX1_32 : Fp RX1 32 5 0 := ⟨RX5, TX5, 12, tyX5, rfl, by decide, rfl, fX1_32, okX5, nmX5, rfl, by decide +kernel⟩
theorem gX5_38 : Fq RX5 38 5 0 := ⟨RX5, TX5, 12, rfl, by decide, rfl, fX5_38⟩
theorem pX5_38 : Fp RX5 38 5 0 := ⟨RX5, TX5, 12, tyX5, rfl, by decide, rfl, fX5_38, okX5, nmX5, rfl, by decide +kernel⟩
theorem gX11_120 : Fq RX11 120 5 0 := ⟨RX5, TX5, 12, rfl, by decide, rfl, fX11_120⟩
theorem pX11_120 : Fp RX11 120 5 0 := ⟨RX5, TX5, 12, tyX5, rfl, by decide, rfl, fX11_120, okX5, nmX5, rfl, by decide +kernel⟩
theorem gX5_42 : Fq RX5 42 5 1 := ⟨RX5, TX5, 12, rfl, by decide, rfl, fX5_42⟩
theorem pX5_42 : Fp RX5 42 5 1 := ⟨RX5, TX5, 12, tyX5, rfl, by decide, rfl, fX5_42, okX5, nmX5, rfl, by decide +kernel⟩
theorem gX11_123 : Fq RX11 123 5 1 := ⟨RX5, TX5, 12, rfl, by decide, rfl, fX11_123⟩
theorem pX11_123 : Fp RX11 123 5 1 := ⟨RX5, TX5, 12, tyX5, rfl, by decide, rfl, fX11_123, okX5, nmX5, rfl, by decide +kernel⟩
theorem gX9_29 : Fq RX9 29 5 2 := ⟨RX5, TX5, 12, rfl, by decide, rfl, fX9_29⟩
theorem pX9_29 : Fp RX9 29 5 2 := ⟨RX5, TX5, 12, tyX5, rfl, by decide, rfl, fX9_29, okX5, nmX5, rfl, by decide +kernel⟩
theorem gX5_45 : Fq RX5 45 5 2 := ⟨RX5, TX5, 12, rfl, by decide, rfl, fX5_45⟩
theorem pX5_45 : Fp RX5 45 5 2 := ⟨RX5, TX5, 12, tyX5, rfl, by decide, rfl, fX5_45, okX5, nmX5, rfl, by decide +kernel⟩
theorem gX11_126 : Fq RX11 126 5 2 := ⟨RX5, TX5, 12, rfl, by decide, rfl, fX11_126⟩
theorem pX11_126 : Fp RX11 126 5 2 := ⟨RX5, TX5, 12, tyX5, rfl, by decide, rfl, fX11_126, okX5, nmX5, rfl, by decide +kernel⟩
theorem gX9_75 : Fq RX9 75 5 3 := ⟨RX5, TX5, 12, rfl, by decide, rfl, fX9_75⟩
theorem pX9_75 : Fp RX9 75 5 3 := ⟨RX5, TX5, 12, tyX5, rfl, by decide, rfl, fX9_75, okX5, nmX5, rfl, by decide +kernel⟩
theorem gX5_48 : Fq RX5 48 5 3 := ⟨RX5, TX5, 12, rfl, by decide, rfl, fX5_48⟩
theorem pX5_48 : Fp RX5 48 5 3 := ⟨RX5, TX5, 12, tyX5, rfl, by decide, rfl, fX5_48, okX5, nmX5, rfl, by decide +kernel⟩
theorem gX1_86 : Fq RX1 86 5 4 := ⟨RX5, TX5, 12, rfl, by decide, rfl, fX1_86⟩
theorem pX1_86 : Fp RX1 86 5 4 := ⟨RX5, TX5, 12, tyX5, rfl, by decide, rfl, fX1_86, okX5, nmX5, rfl, by decide +kernel⟩
theorem gX5_51 : Fq RX5 51 5 4 := ⟨RX5, TX5, 12, rfl, by decide, rfl, fX5_51⟩
theorem pX5_51 : Fp RX5 51 5 4 := ⟨RX5, TX5, 12, tyX5, rfl, by decide, rfl, fX5_51, okX5, nmX5, rfl, by decide +kernel⟩
theorem gX5_54 : Fq RX5 54 5 5 := ⟨RX5, TX5, 12, rfl, by decide, rfl, fX5_54⟩
theorem pX5_54 : Fp RX5 54 5 5 := ⟨RX5, TX5, 12, tyX5, rfl, by decide, rfl, fX5_54, okX5, nmX5, rfl, by decide +kernel⟩
theorem gX5_57 : Fq RX5 57 5 6 := ⟨RX5, TX5, 12, rfl, by decide, rfl, fX5_57⟩
theorem pX5_57 : Fp RX5 57 5 6 := ⟨RX5, TX5, 12, tyX5, rfl, by decide, rfl, fX5_57, okX5, nmX5, rfl, by decide +kernel⟩
theorem gX5_9 : Fq RX5 9 5 7 := ⟨RX5, TX5, 12, rfl, by decide, rfl, fX5_9⟩
theorem gX0_34 : Fq RX0 34 5 7 := ⟨RX5, TX5, 12, rfl, by decide, rfl, fX0_34⟩
theorem gX11_174 : Fq RX11 174 5 7 := ⟨RX5, TX5, 12, rfl, by decide, rfl, fX11_174⟩
theorem gX5_15 : Fq RX5 15 5 8 := ⟨RX5, TX5, 12, rfl, by decide, rfl, fX5_15⟩
theorem gX11_206 : Fq RX11 206 5 8 := ⟨RX5, TX5, 12, rfl, by decide, rfl, fX11_206⟩
theorem gX5_18 : Fq RX5 18 5 9 := ⟨RX5, TX5, 12, rfl, by decide, rfl, fX5_18⟩
theorem gX11_225 : Fq RX11 225 5 9 := ⟨RX5, TX5, 12, rfl, by decide, rfl, fX11_225⟩
theorem gX5_24 : Fq RX5 24 5 10 := ⟨RX5, TX5, 12, rfl, by decide, rfl, fX5_24⟩
theorem gX9_35 : Fq RX9 35 5 10 := ⟨RX5, TX5, 12, rfl, by decide, rfl, fX9_35⟩
theorem gX0_21 : Fq RX0 21 5 10 := ⟨RX5, TX5, 12, rfl, by decide, rfl, fX0_21⟩
theorem gX1_37 : Fq RX1 37 5 10 := ⟨RX5, TX5, 12, rfl, by decide, rfl, fX1_37⟩
theorem gX11_181 : Fq RX11 181 5 10 := ⟨RX5, TX5, 12, rfl, by decide, rfl, fX11_181⟩
theorem gX5_31 : Fq RX5 31 5 11 := ⟨RX5, TX5, 12, rfl, by decide, rfl, fX5_31⟩
theorem gX9_65 : Fq RX9 65 5 11 := ⟨RX5, TX5, 12, rfl, by decide, rfl, fX9_65⟩
theorem gX1_70 : Fq RX1 70 5 11 := ⟨RX5, TX5, 12, rfl, by decide, rfl, fX1_70⟩
theorem gX11_135 : Fq RX11 135 5 11 := ⟨RX5, TX5, 12, rfl, by decide, rfl, fX11_135⟩
theorem gX7_9 : Fq RX7 9 7 2 := ⟨RX7, TX7, 9, rfl, by decide, rfl, fX7_9⟩
theorem gX7_15 : Fq RX7 15 7 7 := ⟨RX7, TX7, 9, rfl, by decide, rfl, fX7_15⟩
theorem gX0_9 : Fq RX0 9 0 0 := ⟨RX0, TX0, 2, rfl, by decide, rfl, fX0_9⟩
theorem gX11_243 : Fq RX11 243 0 0 := ⟨RX0, TX0, 2, rfl, by decide, rfl, fX11_243⟩
theorem gX0_88 : Fq RX0 88 0 1 := ⟨RX0, TX0, 2, rfl, by decide, rfl, fX0_88⟩
theorem pX0_88 : Fp RX0 88 0 1 := ⟨RX0, TX0, 2, tyX0, rfl, by decide, rfl, fX0_88, okX0, nmX0, rfl, by decide +kernel⟩
theorem gX11_240 : Fq RX11 240 0 1 := ⟨RX0, TX0, 2, rfl, by decide, rfl, fX11_240⟩
theorem pX11_240 : Fp RX11 240 0 1 := ⟨RX0, TX0, 2, tyX0, rfl, by decide, rfl, fX11_240, okX0, nmX0, rfl, by decide +kernel⟩
theorem gX8_9 : Fq RX8 9 8 0 := ⟨RX8, TX8, 2, rfl, by decide, rfl, fX8_9⟩
theorem gX8_15 : Fq RX8 15 8 1 := ⟨RX8, TX8, 2, rfl, by decide, rfl, fX8_15⟩
theorem gX2_9 : Fq RX2 9 2 0 := ⟨RX2, TX2, 4, rfl, by decide, rfl, fX2_9⟩
theorem gX10_9 : Fq RX10 9 10 1 := ⟨RX10, TX10, 3, rfl, by decide, rfl, fX10_9⟩
theorem gX10_15 : Fq RX10 15 10 2 := ⟨RX10, TX10, 3, rfl, by decide, rfl, fX10_15⟩
theorem gX1_15 : Fq RX1 15 1 0 := ⟨RX1, TX1, 5, rfl, by decide, rfl, fX1_15⟩
theorem pX1_15 : Fp RX1 15 1 0 := ⟨RX1, TX1, 5, tyX1, rfl, by decide, rfl, fX1_15, okX1, nmX1, rfl, by decide +kernel⟩
theorem gX9_152 : Fq RX9 152 1 0 := ⟨RX1, TX1, 5, rfl, by decide, rfl, fX9_152⟩
theorem pX9_152 : Fp RX9 152 1 0 := ⟨RX1, TX1, 5, tyX1, rfl, by decide, rfl, fX9_152, okX1, nmX1, rfl, by decide +kernel⟩
theorem gX1_29 : Fq RX1 29 1 1 := ⟨RX1, TX1, 5, rfl, by decide, rfl, fX1_29⟩
theorem pX1_29 : Fp RX1 29 1 1 := ⟨RX1, TX1, 5, tyX1, rfl, by decide, rfl, fX1_29, okX1, nmX1, rfl, by decide +kernel⟩
theorem gX9_161 : Fq RX9 161 1 1 := ⟨RX1, TX1, 5, rfl, by decide, rfl, fX9_161⟩
theorem pX9_161 : Fp RX9 161 1 1 := ⟨RX1, TX1, 5, tyX1, rfl, by decide, rfl, fX9_161, okX1, nmX1, rfl, by decide +kernel⟩
theorem gX1_9 : Fq RX1 9 1 2 := ⟨RX1, TX1, 5, rfl, by decide, rfl, fX1_9⟩
theorem gX1_22 : Fq RX1 22 1 3 := ⟨RX1, TX1, 5, rfl, by decide, rfl, fX1_22⟩
theorem pX1_22 : Fp RX1 22 1 3 := ⟨RX1, TX1, 5, tyX1, rfl, by decide, rfl, fX1_22, okX1, nmX1, rfl, by decide +kernel⟩
theorem gX1_19 : Fq RX1 19 1 4 := ⟨RX1, TX1, 5, rfl, by decide, rfl, fX1_19⟩
theorem pX1_19 : Fp RX1 19 1 4 := ⟨RX1, TX1, 5, tyX1, rfl, by decide, rfl, fX1_19, okX1, nmX1, rfl, by decide +kernel⟩
theorem gX4_7 : Fq RX4 7 4 0 := ⟨RX4, TX4, 3, rfl, by decide, rfl, fX4_7⟩
theorem pX4_7 : Fp RX4 7 4 0 := ⟨RX4, TX4, 3, tyX4, rfl, by decide, rfl, fX4_7, okX4, nmX4, rfl, by decide +kernel⟩
theorem gX4_13 : Fq RX4 13 4 1 := ⟨RX4, TX4, 3, rfl, by decide, rfl, fX4_13⟩
theorem pX4_13 : Fp RX4 13 4 1 := ⟨RX4, TX4, 3, tyX4, rfl, by decide, rfl, fX4_13, okX4, nmX4, rfl, by decide +kernel⟩
theorem gX4_16 : Fq RX4 16 4 2 := ⟨RX4, TX4, 3, rfl, by decide, rfl, fX4_16⟩
theorem pX4_16 : Fp RX4 16 4 2 := ⟨RX4, TX4, 3, tyX4, rfl, by decide, rfl, fX4_16, okX4, nmX4, rfl, by decide +kernel⟩
theorem gX9_9 : Fq RX9 9 9 0 := ⟨RX9, TX9, 5, rfl, by decide, rfl, fX9_9⟩
theorem gX9_15 : Fq RX9 15 9 1 := ⟨RX9, TX9, 5, rfl, by decide, rfl, fX9_15⟩
theorem gX9_19 : Fq RX9 19 9 2 := ⟨RX9, TX9, 5, rfl, by decide, rfl, fX9_19⟩
theorem gX9_23 : Fq RX9 23 9 3 := ⟨RX9, TX9, 5, rfl, by decide, rfl, fX9_23⟩
theorem gX9_26 : Fq RX9 26 9 4 := ⟨RX9, TX9, 5, rfl, by decide, rfl, fX9_26⟩
theorem gX11_9 : Fq RX11 9 11 0 := ⟨RX11, TX11, 17, rfl, by decide, rfl, fX11_9⟩
theorem gX11_92 : Fq RX11 92 11 2 := ⟨RX11, TX11, 17, rfl, by decide, rfl, fX11_92⟩
theorem pX11_92 : Fp RX11 92 11 2 := ⟨RX11, TX11, 17, tyX11, rfl, by decide, rfl, fX11_92, okX11, nmX11, rfl, by decide +kernel⟩
theorem gX11_13 : Fq RX11 13 11 3 := ⟨RX11, TX11, 17, rfl, by decide, rfl, fX11_13⟩
theorem pX11_13 : Fp RX11 13 11 3 := ⟨RX11, TX11, 17, tyX11, rfl, by decide, rfl, fX11_13, okX11, nmX11, rfl, by decide +kernel⟩
theorem gX11_17 : Fq RX11 17 11 4 := ⟨RX11, TX11, 17, rfl, by decide, rfl, fX11_17⟩
theorem pX11_17 : Fp RX11 17 11 4 := ⟨RX11, TX11, 17, tyX11, rfl, by decide, rfl, fX11_17, okX11, nmX11, rfl, by decide +kernel⟩
theorem gX11_23 : Fq RX11 23 11 5 := ⟨RX11, TX11, 17, rfl, by decide, rfl, fX11_23⟩
theorem gX11_27 : Fq RX11 27 11 6 := ⟨RX11, TX11, 17, rfl, by decide, rfl, fX11_27⟩
theorem gX11_30 : Fq RX11 30 11 7 := ⟨RX11, TX11, 17, rfl, by decide, rfl, fX11_30⟩
theorem gX11_37 : Fq RX11 37 11 9 := ⟨RX11, TX11, 17, rfl, by decide, rfl, fX11_37⟩
theorem gX11_44 : Fq RX11 44 11 10 := ⟨RX11, TX11, 17, rfl, by decide, rfl, fX11_44⟩
theorem gX11_51 : Fq RX11 51 11 11 := ⟨RX11, TX11, 17, rfl, by decide, rfl, fX11_51⟩
theorem gX11_58 : Fq RX11 58 11 12 := ⟨RX11, TX11, 17, rfl, by decide, rfl, fX11_58⟩
theorem gX11_65 : Fq RX11 65 11 13 := ⟨RX11, TX11, 17, rfl, by decide, rfl, fX11_65⟩
theorem gX11_72 : Fq RX11 72 11 14 := ⟨RX11, TX11, 17, rfl, by decide, rfl, fX11_72⟩
theorem gX11_79 : Fq RX11 79 11 15 := ⟨RX11, TX11, 17, rfl, by decide, rfl, fX11_79⟩
theorem gX11_88 : Fq RX11 88 11 16 := ⟨RX11, TX11, 17, rfl, by decide, rfl, fX11_88⟩
