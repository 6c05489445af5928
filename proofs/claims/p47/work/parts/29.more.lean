/-! more of the same: lemmas that the law wants -/
theorem tb_orS (f : Nat → Int32) : ∀ (n i : Nat), tb (orS f n) i = true ↔ ∃ j, j < n ∧ tb (f j) i = true
  | 0, i => by simp [orS, tb_n0]
  | n + 1, i => by
    rw [orS, tb_or, Bool.or_eq_true, tb_orS f n i]
    constructor
    · rintro (⟨j, h1, h2⟩ | h)
      · exact ⟨j, by omega, h2⟩
      · exact ⟨n, by omega, h⟩
    · rintro ⟨j, h1, h2⟩
      by_cases e : j = n
      · subst e; exact Or.inr h2
      · exact Or.inl ⟨j, by omega, h2⟩
theorem cnt_mono {x y : Int32} (h : ∀ k, tb x k = true → tb y k = true) : ∀ n, cnt x n ≤ cnt y n
  | 0 => Nat.le_refl _
  | n + 1 => by
    have i := cnt_mono h n
    have : (tb x n).toNat ≤ (tb y n).toNat := by
      cases e : tb x n
      · exact Nat.zero_le _
      · rw [h n e]; exact Nat.le_refl _
    simp only [cnt]
    omega
theorem cnt_lt {x y : Int32} (h : ∀ k, tb x k = true → tb y k = true) {j : Nat} (hx : tb x j = false) (hy : tb y j = true) : ∀ n, j < n → cnt x n < cnt y n
  | 0, hj => absurd hj (Nat.not_lt_zero _)
  | n + 1, hj => by
    have m := cnt_mono h n
    by_cases e : j = n
    · subst e
      simp only [cnt, hx, hy, Bool.toNat_true, Bool.toNat_false]
      omega
    · have i := cnt_lt h hx hy n (by omega)
      have : (tb x n).toNat ≤ (tb y n).toNat := by
        cases e : tb x n
        · exact Nat.zero_le _
        · rw [h n e]; exact Nat.le_refl _
      simp only [cnt]
      omega
theorem pc_pos {s : Int32} (h : sb 8 s) (h0 : s ≠ 0) : 0 < pc s := by
  by_cases e : ∃ k, tb s k = true
  · obtain ⟨k, hk⟩ := e
    have hk8 : k < 8 := by
      by_cases q : k < 8
      · exact q
      · rw [h k (by omega)] at hk; exact absurd hk (by decide)
    have := cnt_lt (x := nI 0) (y := s) (fun j hj => by rw [tb_n0] at hj; exact absurd hj (by decide)) (tb_n0 k) hk 8 hk8
    have e0 : cnt (nI 0) 8 = 0 := by decide
    show 0 < cnt s 8
    omega
  · exfalso
    apply h0
    apply s_ext
    intro i _
    rw [tb_0]
    cases q : tb s i
    · rfl
    · exact absurd ⟨i, q⟩ e
theorem tb_kno {μ : Nat → Int32} {i : Nat} {s : Int32} (k : Nat) : tb (kno μ i s) k = true ↔ ∃ j, j < nN μ ∧ tb s j = true ∧ tb (μ (144 + (8 * i + j))) k = true := by
  unfold kno
  rw [tb_orS]
  constructor
  · rintro ⟨j, hj, hk⟩
    by_cases hs : tb s j = true
    · rw [if_pos hs] at hk
      exact ⟨j, hj, hs, hk⟩
    · rw [if_neg hs, tb_n0] at hk
      cases hk
  · rintro ⟨j, hj, hs, hk⟩
    exact ⟨j, hj, by rw [if_pos hs]; exact hk⟩
theorem tb_lt32 {s : Int32} {k : Nat} (h : tb s k = true) : k < 32 := by
  by_cases q : k < 32
  · exact q
  · rw [tb_big (by omega)] at h; cases h
/-- one more is taken: what is left open -/
theorem opn_or {μ : Nat → Int32} {i x : Nat} {s : Int32} (hx : x < nN μ) (h8 : nN μ ≤ 8) : opn μ i (s ||| bt1 x) = opn μ i s &&& nots (μ (144 + (8 * i + x))) := by
  apply s_ext
  intro k hk
  unfold opn
  rw [tb_and, tb_nots hk, tb_and, tb_and, tb_nots hk, tb_nots hk]
  have e : tb (kno μ i (s ||| bt1 x)) k = (tb (kno μ i s) k || tb (μ (144 + (8 * i + x))) k) := by
    apply Bool.eq_iff_iff.mpr
    rw [tb_kno, Bool.or_eq_true, tb_kno]
    constructor
    · rintro ⟨j, hj, hs, hq⟩
      rw [tb_or, tb_bt1 (by omega), Bool.or_eq_true] at hs
      rcases hs with hs | hs
      · exact Or.inl ⟨j, hj, hs, hq⟩
      · have : j = x := by simpa using hs
        subst this
        exact Or.inr hq
    · rintro (⟨j, hj, hs, hq⟩ | hq)
      · exact ⟨j, hj, by rw [tb_or, hs]; rfl, hq⟩
      · exact ⟨x, hx, by rw [tb_or, tb_bt1 (by omega)]; simp, hq⟩
  rw [e]
  cases tb (bhd μ i) k <;> cases tb (kno μ i s) k <;> cases tb (μ (144 + (8 * i + x))) k <;> rfl
theorem s_ne0 {s : Int32} (h : s ≠ 0) : ∃ k, k < 32 ∧ tb s k = true := by
  by_cases e : ∃ k, k < 32 ∧ tb s k = true
  · exact e
  · exfalso
    apply h
    apply s_ext
    intro i hi
    rw [tb_0]
    cases q : tb s i
    · rfl
    · exact absurd ⟨i, hi, q⟩ e
theorem ne0_of {s : Int32} {k : Nat} (h : tb s k = true) : s ≠ 0 := by
  intro e
  rw [e, tb_0] at h
  cases h
/-- something is open: somebody is picked -/
theorem pkB_ne {μ : Nat → Int32} {i : Nat} {s : Int32} (h : opn μ i s ≠ 0) : ∃ x, pkB μ i s = some x := by
  cases e : pkB μ i s with
  | some x => exact ⟨x, rfl⟩
  | none =>
    exfalso
    obtain ⟨k, hk, ht⟩ := s_ne0 h
    have ht' := ht
    unfold opn at ht
    rw [tb_and, tb_nots hk, Bool.and_eq_true] at ht
    have hb := ht.1
    unfold bhd at hb
    rw [tb_and, tb_and, Bool.and_eq_true, Bool.and_eq_true, tb_kno] at hb
    obtain ⟨j, hj, hw, hq⟩ := hb.1.1
    have hns : tb s j = false := by
      cases q : tb s j
      · rfl
      · exfalso
        have : tb (kno μ i s) k = true := (tb_kno k).mpr ⟨j, hj, q, hq⟩
        rw [this] at ht
        exact absurd ht.2 (by decide)
    have h0 := bst_none e j hj (by rw [tb_and, tb_nots (tb_lt32 hw), hw, hns]; rfl)
    exact ne0_of (s := μ (144 + (8 * i + j)) &&& opn μ i s) (k := k) (by rw [tb_and, hq, ht']; rfl) h0
theorem pkB_0 {μ : Nat → Int32} {i : Nat} {s : Int32} (h : opn μ i s = 0) : pkB μ i s = none := by
  cases e : pkB μ i s with
  | none => rfl
  | some x =>
    exfalso
    have := (bst_some e).2.2
    rw [h] at this
    apply this
    apply s_ext
    intro k _
    rw [tb_and, tb_0]
    cases tb (μ (144 + (8 * i + x))) k <;> rfl
theorem opn_pc {μ : Nat → Int32} {i x : Nat} {s : Int32} (h8 : nN μ ≤ 8) (hs : sb 8 (opn μ i s)) (h : pkB μ i s = some x) : x < nN μ ∧ tb s x = false ∧ pc (opn μ i (s ||| bt1 x)) < pc (opn μ i s) ∧ sb 8 (opn μ i (s ||| bt1 x)) := by
  obtain ⟨h1, h2, h3⟩ := bst_some h
  rw [tb_and, Bool.and_eq_true, tb_nots (by omega)] at h2
  refine ⟨h1, by cases q : tb s x; rfl; rw [q] at h2; exact absurd h2.2 (by decide), ?_, ?_⟩
  · rw [opn_or h1 h8]
    obtain ⟨k, hk, ht⟩ := s_ne0 h3
    rw [tb_and, Bool.and_eq_true] at ht
    have hk8 : k < 8 := by
      by_cases q : k < 8
      · exact q
      · rw [hs k (by omega)] at ht; exact absurd ht.2 (by decide)
    refine cnt_lt (fun j hj => ?_) (j := k) ?_ ht.2 8 hk8
    · rw [tb_and, Bool.and_eq_true] at hj
      exact hj.1
    · rw [tb_and, tb_nots hk, ht.1]
      cases tb (opn μ i s) k <;> rfl
  · rw [opn_or h1 h8]
    exact sb_andl hs
theorem sb_kno {μ : Nat → Int32} {i : Nat} {s : Int32} (h : MI μ) (hi : i < 8) : sb 8 (kno μ i s) := fun k hk => by
  cases q : tb (kno μ i s) k
  · rfl
  · obtain ⟨j, hj, _, hq⟩ := (tb_kno k).mp q
    have := mi_8 h
    rw [ms_kno h (k := 8 * i + j) (by omega) k hk] at hq
    cases hq
theorem sb_bhd {μ : Nat → Int32} {i : Nat} (h : MI μ) (hi : i < 8) : sb 8 (bhd μ i) := sb_andl (sb_andl (sb_kno h hi))
theorem sb_opn {μ : Nat → Int32} {i : Nat} {s : Int32} (h : MI μ) (hi : i < 8) : sb 8 (opn μ i s) := sb_andl (sb_bhd h hi)
theorem MC.imp {l : Launch} {w : Wd} {q : Mq} {d : Nat} {av : List Value} {σ : Mem} {v : Option Value} {P P' : Mem → Prop} (h : MC l w q d av σ v P) (hi : ∀ σ', P σ' → P' σ') : MC l w q d av σ v P' := by
  unfold MC Met at *
  intro p e ha hc hk s m args below hf happ hP hK
  obtain ⟨n, o, h1, h2, h3, ⟨⟨⟨e1, σ', e2, e3⟩, e4⟩, e5⟩⟩ := h p e ha hc hk s m args below hf happ hP hK
  exact ⟨n, o, h1, h2, h3, ⟨⟨⟨e1, σ', hi σ' e2, e3⟩, e4⟩, e5⟩⟩
theorem pw_up {N a : Nat} {x : Int32} (h : PW N a x) : PW (N + 1) a x := by
  obtain ⟨h1, h2, h3, h4, h5, h6, h7, h8⟩ := h
  exact ⟨h1, h2, h3, fun q1 q2 => ⟨(h4 q1 q2).1, sb_mono (by omega) (h4 q1 q2).2⟩, fun q => sb_mono (by omega) (h5 q), h6, h7, fun q1 q2 q3 => h8 q1 q2 (by omega)⟩
theorem ad_mi {ν : Nat → Int32} {c : Nat} (h : MI ν) (h8 : nN ν < 8) (hc : c < 8) : MI (upd (upd (upd ν (16 + nN ν) (nI c)) 1 (ν 1 ||| bt1 (nN ν))) 0 (nI (nN ν + 1))) ∧ nN (upd (upd (upd ν (16 + nN ν) (nI c)) 1 (ν 1 ||| bt1 (nN ν))) 0 (nI (nN ν + 1))) = nN ν + 1 := by
  have hn : nN (upd (upd (upd ν (16 + nN ν) (nI c)) 1 (ν 1 ||| bt1 (nN ν))) 0 (nI (nN ν + 1))) = nN ν + 1 := by
    show (upd (upd (upd ν (16 + nN ν) (nI c)) 1 (ν 1 ||| bt1 (nN ν))) 0 (nI (nN ν + 1)) 0).toNatClampNeg = _
    rw [upd_eq]
    exact nI_clamp (by omega)
  refine ⟨?_, hn⟩
  refine mi_of ?_ ?_ ?_ fun a ha => ?_
  · rw [hn]
    exact upd_eq
  · rw [hn]
    omega
  · rw [nA_upd (by decide), nA_upd (by decide), nA_upd (by omega), nA_upd (by decide), nA_upd (by decide), nA_upd (by omega)]
    exact ml_6 h
  · rw [hn, upd_ne ha]
    by_cases c1 : a = 1
    · subst c1
      rw [upd_eq]
      refine ⟨fun q => absurd (show nb 1 = 0 by decide) q, fun q => by omega, fun q => by omega, fun q => by omega, fun _ => sb_or (sb_mono (by omega) (ms_on h)) (sb_bt1 (by omega) (by omega)), fun q => by omega, fun q => by omega, fun q => by omega⟩
    · rw [upd_ne c1]
      by_cases c2 : a = 16 + nN ν
      · rw [c2, upd_eq]
        exact pw_num (by rw [nb16 h8]; exact hc) (by omega) (by omega)
      · rw [upd_ne c2]
        exact pw_up (mi_pw h a)
