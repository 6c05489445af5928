/-! the law's walk: the nodes, whom they hear, the ticks -/
def RoomX (X : GX) : Prop := X.2.2.2.1.cells = 600000 ∧ X.2.2.2.1.slots = 7302250
section A9
variable {w : Wd} {A : Nat → Prop} {kw kk : Nat} {e e' : va_E}
theorem dx1 (h : ¬ wA w kw) : DX w [(kw, e)] := by
  refine ⟨fun k q hk => ?_, fun i j p q hi hj _ => ?_⟩
  · match k, hk with
    | 0, hk => cases hk; exact h
    | k + 1, hk => cases hk
  · match i, j, hi, hj with
    | 0, 0, _, _ => rfl
    | i + 1, _, hi, _ => cases hi
    | 0, j + 1, _, hj => cases hj
theorem dx2 (h : ¬ wA w kw) (h' : ¬ wA w kk) (hn : kw ≠ kk) : DX w [(kw, e), (kk, e')] := by
  refine ⟨fun k q hk => ?_, fun i j p q hi hj e => ?_⟩
  · match k, hk with
    | 0, hk => cases hk; exact h
    | 1, hk => cases hk; exact h'
    | k + 2, hk => cases hk
  · match i, j, hi, hj with
    | 0, 0, _, _ => rfl
    | 1, 1, _, _ => rfl
    | 0, 1, hi, hj => cases hi; cases hj; exact absurd e hn
    | 1, 0, hi, hj => cases hi; cases hj; exact absurd e.symm hn
    | i + 2, _, hi, _ => cases hi
    | 0, j + 2, _, hj => cases hj
    | 1, j + 2, _, hj => cases hj
theorem ae1 (h : A kw) : ∀ (k : Nat) (q : Nat × va_E), [(kw, e)][k]? = some q → A q.1 := fun k q hk => match k, hk with
  | 0, hk => by cases hk; exact h
  | k + 1, hk => by cases hk
theorem ae2 (h : A kw) (h' : A kk) : ∀ (k : Nat) (q : Nat × va_E), [(kw, e), (kk, e')][k]? = some q → A q.1 := fun k q hk => match k, hk with
  | 0, hk => by cases hk; exact h
  | 1, hk => by cases hk; exact h'
  | k + 2, hk => by cases hk
theorem ae0 : ∀ (k : Nat) (q : Nat × va_E), ([] : va_W)[k]? = some q → A q.1 := fun k q hk => by rw [List.getElem?_nil] at hk; cases hk
end A9
/-- an array's words, alike where it has cells -/
theorem yx_arr {X : GX} {A : Nat → Prop} {w : Wd} {es : va_W} {n pc c9 s9 q0 a Z : Nat} {cI : ClassId} {L : List (Nat × Value)} {st : List Value} {σ : Mem} {f : Nat → Int32} (g : Nat → Int32) (he : es[q0]? = some (a, .inl (cI, Z, .inl f))) (hfg : ∀ j, j < Z → f j = g j) (k : JX X A w (es.set q0 (a, .inl (cI, Z, .inl g))) n pc L st σ c9 s9) : JX X A w es n pc L st σ c9 s9 := by
  intro H locs ls hH hS hl
  refine k H locs ls ⟨hH.1, fun i q hi => ?_⟩ hS hl
  have hlt := (List.getElem?_eq_some_iff.mp he).1
  by_cases c : q0 = i
  · subst c
    rw [List.getElem?_set_self hlt] at hi
    cases hi
    have h0 : H[a]? = some (vp_cell cI (Z, .inl f)) := hH.2 q0 _ he
    show H[a]? = some (vp_cell cI (Z, .inl g))
    rw [h0, cell_congr hfg]
  · rw [List.getElem?_set_ne c] at hi
    exact hH.2 i q hi

set_option maxRecDepth 100000 in
set_option maxHeartbeats 8000000 in
theorem ls_1 {X : GX} {A : Nat → Prop} {w : Wd} (hW : Wi w) (h : Fy X A w cL_law 18 RL 9) {b Lx : Nat} {xs : Nat → Int32} (hX : SX X A b Lx xs) (hR : RoomX X) {c9 s9 : Nat} (hc : c9 ≤ 1000) (hs : s9 ≤ 100000) (hA9 : ∀ q : Nat, X.2.2.2.2.1.heap.size ≤ q → A q) {σ : Mem} (next : ∀ n kw, (2 ≤ n ∧ n ≤ 8) → ¬ wA w kw → A kw → JX X A w ([(kw, .inl (w.2.2.1.1, n, .inl fun _ => nI 0))]) 18 36 [(0, .ref b), (1, .ref (w.1 0)), (2, .int (nI n)), (3, .ref kw), (4, .int (nI 0))] [] σ (c9 + 1) (s9 + n)) : JX X A w ([]) 18 8 [(0, .ref b), (1, .ref (w.1 0))] [] σ c9 s9 := by
  have hLx : Lx < 4000 := hX.2.2.2
  have hkn : c9 ≤ X.2.2.2.1.cells ∧ s9 ≤ X.2.2.2.1.slots := ⟨by rw [hR.1]; omega, by rw [hR.2]; omega⟩
  have hE : DX w [] := dx_nil
  have J22 : ∀ v : Int32, JX X A w ([]) 18 22 [(0, .ref b), (1, .ref (w.1 0))] [.int v, .int (nI 2)] σ c9 s9 := by
    intro v
    refine yx_bipush h dL_law_22 (by decide) ?_
    have hamo := (amo_ok (v := v) (n := 7) (by decide) (by decide)).2
    refine yx_csp (rest := [.int (nI 2)]) h hE hkn (c_among hW v 7 (by decide) (by decide)) lL_among mL_10 (by decide) (by decide) rfl rfl rfl dL_law_24 ?_
    refine yx_iaddN h dL_law_27 ?_
    refine yx_istore_n (L' := [(0, .ref b), (1, .ref (w.1 0)), (2, .int (nI (2 + (amo v 7))))]) h dL_law_28 rfl (by decide) rfl ?_
    obtain ⟨n, hn⟩ : ∃ n, n = 2 + amo v 7 := ⟨_, rfl⟩
    rw [← hn]
    have hn2 : 2 ≤ n ∧ n ≤ 8 := by omega
    refine yx_iload_n h dL_law_29 2 rfl ?_
    refine yx_newa h hE ae0 hA9 dL_law_30 wd_int (by omega) (by rw [hR.1]; omega) (by rw [hR.2]; omega) (fun kw hE9 hA8 => ?_)
    refine yx_es (es' := [(kw, .inl (w.2.2.1.1, n, .inl fun _ => nI 0))]) rfl ?_
    refine yx_astore_n (L' := [(0, .ref b), (1, .ref (w.1 0)), (2, .int (nI n)), (3, .ref kw)]) h dL_law_32 rfl (by decide) rfl ?_
    refine yx_iconst h dL_law_33 (by decide) ?_
    refine yx_istore (L' := [(0, .ref b), (1, .ref (w.1 0)), (2, .int (nI n)), (3, .ref kw), (4, .int (nI 0))]) h dL_law_34 rfl (by decide) rfl ?_
    exact next n kw hn2 (hE9.1 0 _ rfl) hA8
  refine yx_iconst h dL_law_8 (by decide) ?_
  refine yx_aload_n h dL_law_9 0 rfl ?_
  refine yx_slen h hX dL_law_10 ?_
  refine yx_ifN_le h dL_law_11 (by omega) (fun c => ?_) (fun c => ?_)
  · refine yx_bipush h dL_law_20 (by decide) ?_
    exact J22 _
  · refine yx_aload_n h dL_law_14 0 rfl ?_
    refine yx_iconst h dL_law_15 (by decide) ?_
    refine yx_sld h hX dL_law_16 (by omega) ?_
    refine yx_goto h dL_law_17 ?_
    exact J22 _

set_option maxRecDepth 100000 in
set_option maxHeartbeats 8000000 in
theorem ls_2 {X : GX} {A : Nat → Prop} {w : Wd} (hW : Wi w) (h : Fy X A w cL_law 18 RL 9) {b Lx : Nat} {xs : Nat → Int32} (hX : SX X A b Lx xs) (hR : RoomX X) {c9 s9 : Nat} (hc : c9 ≤ 1000) (hs : s9 ≤ 100000) {n kw : Nat} (hn : 2 ≤ n ∧ n ≤ 8) (hkw : ¬ wA w kw) (hAw : A kw) (next : ∀ {σ : Mem} {μ : Nat → Int32} {W : Nat → Int32}, LM σ μ → P1 μ n W → JX X A w ([(kw, .inl (w.2.2.1.1, n, .inl W))]) 18 90 [(0, .ref b), (1, .ref (w.1 0)), (2, .int (nI n)), (3, .ref kw)] [] σ c9 s9) : ∀ {σ : Mem} {μ : Nat → Int32} {W : Nat → Int32}, LM σ μ → P1 μ 0 W → JX X A w ([(kw, .inl (w.2.2.1.1, n, .inl W))]) 18 36 [(0, .ref b), (1, .ref (w.1 0)), (2, .int (nI n)), (3, .ref kw), (4, .int (nI 0))] [] σ c9 s9 := by
  have hLx : Lx < 4000 := hX.2.2.2
  have hkn : c9 ≤ X.2.2.2.1.cells ∧ s9 ≤ X.2.2.2.1.slots := ⟨by rw [hR.1]; omega, by rw [hR.2]; omega⟩
  have LP : ∀ (f a : Nat), a ≤ n → n - a < f → ∀ {σ : Mem} {μ : Nat → Int32} {W : Nat → Int32} (hm : LM σ μ) (hp : P1 μ a W), JX X A w ([(kw, .inl (w.2.2.1.1, n, .inl W))]) 18 36 [(0, .ref b), (1, .ref (w.1 0)), (2, .int (nI n)), (3, .ref kw), (4, .int (nI a))] [] σ c9 s9 := by
    intro f
    induction f with
    | zero => intro a _ h9; exact absurd h9 (Nat.not_lt_zero _)
    | succ f ih =>
      intro a ha hf σ μ W hm hp
      have hI := hm.mi
      have hE : DX w [(kw, .inl (w.2.2.1.1, n, .inl W))] := dx1 hkw
      have J63 : a < n → ∀ v : Int32, JX X A w ([(kw, .inl (w.2.2.1.1, n, .inl W))]) 18 63 [(0, .ref b), (1, .ref (w.1 0)), (2, .int (nI n)), (3, .ref kw), (4, .int (nI a))] [.int v, .int (nI a), .ref kw] σ c9 s9 := by
        intro ha9 v
        refine yx_bipush h dL_law_63 (by decide) ?_
        have hamo := (amo_ok (v := v) (n := 8) (by decide) (by decide)).2
        refine yx_csp (rest := [.int (nI a), .ref kw]) h hE hkn (c_among hW v 8 (by decide) (by decide)) lL_among mL_10 (by decide) (by decide) rfl rfl rfl dL_law_65 ?_
        refine yx_iast (q0 := 0) h hE (ae1 hAw) dL_law_68 rfl (by omega) (by omega) ?_
        refine yx_es (es' := [(kw, .inl (w.2.2.1.1, n, .inl (upd W a (nI (amo v 8)))))]) rfl ?_
        have hE : DX w [(kw, .inl (w.2.2.1.1, n, .inl (upd W a (nI (amo v 8)))))] := dx1 hkw
        refine yx_aload_n h dL_law_69 1 rfl ?_
        refine yx_aload_n h dL_law_70 3 rfl ?_
        refine yx_iload h dL_law_71 4 rfl ?_
        refine yx_iald (q0 := 0) h dL_law_73 rfl (by omega) (by omega) ?_
        refine yx_top (y := (nI (amo v 8))) (upd_eq) ?_
        refine yx_cv (rest := []) h hE hkn (lm_add hW hm (by rw [hp.1]; omega) hamo) lX11_add mL_16 (by decide) (by decide) sc_0 rfl rfl rfl rfl dL_law_74 (fun σ1 hq1 => ?_)
        refine yx_top (y := (nI a)) (by rw [hp.1]) ?_
        refine yx_iload h dL_law_77 4 rfl ?_
        refine yx_icmpN_eq h dL_law_79 (by omega) (by omega) (fun _ => ?_) (fun q9 => False.elim (q9 rfl))
        refine yx_iincN (L' := [(0, .ref b), (1, .ref (w.1 0)), (2, .int (nI n)), (3, .ref kw), (4, .int (nI (a + 1)))]) h dL_law_84 4 rfl rfl (by decide) (by decide) rfl ?_
        refine yx_goto h dL_law_87 ?_
        exact ih (a + 1) (by omega) (by omega) hq1.1 (hp.s hI (by omega) hamo)
      refine yx_iload h dL_law_36 4 rfl ?_
      refine yx_iload_n h dL_law_38 2 rfl ?_
      refine yx_icmpN_ge h dL_law_39 (by omega) (by omega) (fun c => ?_) (fun c => ?_)
      · have ea : a = n := by omega
        subst ea
        exact yx_sub [0, 1, 2, 3] rfl (next hm hp)
      · refine yx_aload_n h dL_law_42 3 rfl ?_
        refine yx_iload h dL_law_43 4 rfl ?_
        refine yx_aload_n h dL_law_45 0 rfl ?_
        refine yx_slen h hX dL_law_46 ?_
        refine yx_iconst h dL_law_47 (by decide) ?_
        refine yx_icmpN_le h dL_law_48 (by omega) (by omega) (fun c1 => ?_) (fun c1 => ?_)
        · refine yx_iconst h dL_law_62 (by decide) ?_
          exact J63 (by omega) _
        · refine yx_aload_n h dL_law_51 0 rfl ?_
          refine yx_iconst h dL_law_52 (by decide) ?_
          refine yx_sld h hX dL_law_53 (by omega) ?_
          refine yx_iconst h dL_law_54 (by decide) ?_
          refine yx_iload h dL_law_55 4 rfl ?_
          refine yx_imulN h dL_law_57 ?_
          refine yx_ishr h dL_law_58 ?_
          refine yx_goto h dL_law_59 ?_
          exact J63 (by omega) _
  intro σ μ W hm hp
  exact LP 9 0 (by omega) (by omega) hm hp

set_option maxRecDepth 100000 in
set_option maxHeartbeats 8000000 in
theorem ls_3 {X : GX} {A : Nat → Prop} {w : Wd} (hW : Wi w) (h : Fy X A w cL_law 18 RL 9) {b Lx : Nat} {xs : Nat → Int32} (hX : SX X A b Lx xs) (hR : RoomX X) {c9 s9 : Nat} (hc : c9 ≤ 1000) (hs : s9 ≤ 100000) {n kw : Nat} (hn : 2 ≤ n ∧ n ≤ 8) (hkw : ¬ wA w kw) (hAw : A kw) {W : Nat → Int32} (next : ∀ {σ : Mem} {μ : Nat → Int32} {a : Nat}, LM σ μ → P2 μ n a 0 W → JX X A w ([(kw, .inl (w.2.2.1.1, n, .inl W))]) 18 200 [(0, .ref b), (1, .ref (w.1 0)), (2, .int (nI n)), (3, .ref kw)] [] σ c9 s9) : ∀ {σ : Mem} {μ : Nat → Int32}, LM σ μ → P1 μ n W → JX X A w ([(kw, .inl (w.2.2.1.1, n, .inl W))]) 18 90 [(0, .ref b), (1, .ref (w.1 0)), (2, .int (nI n)), (3, .ref kw)] [] σ c9 s9 := by
  have hLx : Lx < 4000 := hX.2.2.2
  have hkn : c9 ≤ X.2.2.2.1.cells ∧ s9 ≤ X.2.2.2.1.slots := ⟨by rw [hR.1]; omega, by rw [hR.2]; omega⟩
  have LP : ∀ (f a : Nat), a ≤ n → n - a < f → ∀ {σ : Mem} {μ : Nat → Int32} (hm : LM σ μ) (hp : P2 μ n a 0 W), JX X A w ([(kw, .inl (w.2.2.1.1, n, .inl W))]) 18 93 [(0, .ref b), (1, .ref (w.1 0)), (2, .int (nI n)), (3, .ref kw), (4, .int (nI a))] [] σ c9 s9 := by
    intro f
    induction f with
    | zero => intro a _ h9; exact absurd h9 (Nat.not_lt_zero _)
    | succ f ih =>
      intro a ha hf σ μ hm hp
      have J122 : a < n → ∀ hv : Int32, JX X A w ([(kw, .inl (w.2.2.1.1, n, .inl W))]) 18 122 [(0, .ref b), (1, .ref (w.1 0)), (2, .int (nI n)), (3, .ref kw), (4, .int (nI a))] [.int hv] σ c9 s9 := by
        intro ha9 hv
        have LB : ∀ (f q : Nat), q ≤ n → n - q < f → ∀ {σ : Mem} {μ : Nat → Int32} (hm : LM σ μ) (hp : P2 μ n a q W), JX X A w ([(kw, .inl (w.2.2.1.1, n, .inl W))]) 18 127 [(0, .ref b), (1, .ref (w.1 0)), (2, .int (nI n)), (3, .ref kw), (4, .int (nI a)), (5, .int hv), (6, .int (nI q))] [] σ c9 s9 := by
          intro f9
          induction f9 with
          | zero => intro q _ h9; exact absurd h9 (Nat.not_lt_zero _)
          | succ f9 ib =>
            intro q hq hf9 σ μ hm hp
            have h8 := mi_8 hm.mi
            have hE : DX w [(kw, .inl (w.2.2.1.1, n, .inl W))] := dx1 hkw
            refine yx_iload h dL_law_127 6 rfl ?_
            refine yx_iload_n h dL_law_129 2 rfl ?_
            refine yx_icmpN_ge h dL_law_130 (by omega) (by omega) (fun c => ?_) (fun c => ?_)
            · refine yx_iload h dL_law_171 5 rfl ?_
              refine yx_bipush h dL_law_173 (by decide) ?_
              refine yx_ishr h dL_law_175 ?_
              refine yx_bipush h dL_law_176 (by decide) ?_
              refine yx_iand h dL_law_178 ?_
              refine yx_if_ne h dL_law_179 (fun c3 => ?_) (fun c3 => ?_)
              · refine yx_iincN (L' := [(0, .ref b), (1, .ref (w.1 0)), (2, .int (nI n)), (3, .ref kw), (4, .int (nI (a + 1))), (5, .int hv), (6, .int (nI q))]) h dL_law_194 4 rfl rfl (by decide) (by decide) rfl ?_
                refine yx_goto h dL_law_197 ?_
                exact yx_sub [0, 1, 2, 3, 4] rfl (ih (a + 1) (by omega) (by omega) hm hp.next)
              · refine yx_aload_n h dL_law_182 1 rfl ?_
                refine yx_iload h dL_law_183 4 rfl ?_
                refine yx_iconst h dL_law_185 (by decide) ?_
                refine yx_cv (rest := []) h hE hkn (lm_turn hW hm (i := a) (by rw [hp.1]; omega) (hp.2.2.2.2.1 a (Nat.le_refl _) ha9)) lX11_turn mL_24 (by decide) (by decide) sc_0 rfl rfl rfl rfl dL_law_186 (fun σ2 hq2 => ?_)
                refine yx_ifB_ne h dL_law_189 (fun _ => ?_) (fun q9 => False.elim (by cases q9))
                refine yx_iincN (L' := [(0, .ref b), (1, .ref (w.1 0)), (2, .int (nI n)), (3, .ref kw), (4, .int (nI (a + 1))), (5, .int hv), (6, .int (nI q))]) h dL_law_194 4 rfl rfl (by decide) (by decide) rfl ?_
                refine yx_goto h dL_law_197 ?_
                exact yx_sub [0, 1, 2, 3, 4] rfl (ih (a + 1) (by omega) (by omega) hq2.1 (hp.turn hn.2 ha9))
            · refine yx_iload h dL_law_133 4 rfl ?_
              refine yx_iload h dL_law_135 6 rfl ?_
              refine yx_icmpN_eq h dL_law_137 (by omega) (by omega) (fun c1 => ?_) (fun c1 => ?_)
              · refine yx_iincN (L' := [(0, .ref b), (1, .ref (w.1 0)), (2, .int (nI n)), (3, .ref kw), (4, .int (nI a)), (5, .int hv), (6, .int (nI (q + 1)))]) h dL_law_165 6 rfl rfl (by decide) (by decide) rfl ?_
                refine yx_goto h dL_law_168 ?_
                exact ib (q + 1) (by omega) (by omega) hm hp.no
              · refine yx_iload h dL_law_140 5 rfl ?_
                refine yx_iload h dL_law_142 6 rfl ?_
                refine yx_ishr h dL_law_144 ?_
                refine yx_iconst h dL_law_145 (by decide) ?_
                refine yx_iand h dL_law_146 ?_
                refine yx_top (y := (b2i (tb hv q))) (has_eq (by omega)) ?_
                refine yx_iconst h dL_law_147 (by decide) ?_
                refine yx_icmp_ne h dL_law_148 (fun c2 => ?_) (fun c2 => ?_)
                · have c3 := b2i_ne1 c2
                  refine yx_iincN (L' := [(0, .ref b), (1, .ref (w.1 0)), (2, .int (nI n)), (3, .ref kw), (4, .int (nI a)), (5, .int hv), (6, .int (nI (q + 1)))]) h dL_law_165 6 rfl rfl (by decide) (by decide) rfl ?_
                  refine yx_goto h dL_law_168 ?_
                  exact ib (q + 1) (by omega) (by omega) hm hp.no
                · have c3 := b2i_eq1 c2
                  refine yx_aload_n h dL_law_151 1 rfl ?_
                  refine yx_iload h dL_law_152 6 rfl ?_
                  refine yx_iload h dL_law_154 4 rfl ?_
                  refine yx_iconst h dL_law_156 (by decide) ?_
                  refine yx_cv (rest := []) h hE hkn (lm_ear hW hm (i := q) (j := a) (by rw [hp.1]; omega) (by rw [hp.1]; omega) (fun z => c1 z.symm) (hp.2.2.2.2.2.1 a q (by omega) (Or.inr ⟨rfl, Nat.le_refl _⟩))) lX11_ear mL_20 (by decide) (by decide) sc_0 rfl rfl rfl rfl dL_law_157 (fun σ3 hq3 => ?_)
                  refine yx_ifB_ne h dL_law_160 (fun _ => ?_) (fun q9 => False.elim (by cases q9))
                  refine yx_iincN (L' := [(0, .ref b), (1, .ref (w.1 0)), (2, .int (nI n)), (3, .ref kw), (4, .int (nI a)), (5, .int hv), (6, .int (nI (q + 1)))]) h dL_law_165 6 rfl rfl (by decide) (by decide) rfl ?_
                  refine yx_goto h dL_law_168 ?_
                  exact ib (q + 1) (by omega) (by omega) hq3.1 (hp.ear hn.2 (by omega) (by omega))
        refine yx_istore (L' := [(0, .ref b), (1, .ref (w.1 0)), (2, .int (nI n)), (3, .ref kw), (4, .int (nI a)), (5, .int hv)]) h dL_law_122 rfl (by decide) rfl ?_
        refine yx_iconst h dL_law_124 (by decide) ?_
        refine yx_istore (L' := [(0, .ref b), (1, .ref (w.1 0)), (2, .int (nI n)), (3, .ref kw), (4, .int (nI a)), (5, .int hv), (6, .int (nI 0))]) h dL_law_125 rfl (by decide) rfl ?_
        exact LB (n + 1) 0 (by omega) (by omega) hm hp
      refine yx_iload h dL_law_93 4 rfl ?_
      refine yx_iload_n h dL_law_95 2 rfl ?_
      refine yx_icmpN_ge h dL_law_96 (by omega) (by omega) (fun c => ?_) (fun c => ?_)
      · exact yx_sub [0, 1, 2, 3] rfl (next hm hp)
      · refine yx_aload_n h dL_law_99 0 rfl ?_
        refine yx_slen h hX dL_law_100 ?_
        refine yx_iconst h dL_law_101 (by decide) ?_
        refine yx_iload h dL_law_102 4 rfl ?_
        refine yx_iaddN h dL_law_104 ?_
        refine yx_icmpN_le h dL_law_105 (by omega) (by omega) (fun c1 => ?_) (fun c1 => ?_)
        · refine yx_bipush h dL_law_117 (by decide) ?_
          refine yx_iload h dL_law_119 4 rfl ?_
          refine yx_ishr h dL_law_121 ?_
          exact J122 (by omega) _
        · refine yx_aload_n h dL_law_108 0 rfl ?_
          refine yx_iconst h dL_law_109 (by decide) ?_
          refine yx_iload h dL_law_110 4 rfl ?_
          refine yx_iaddN h dL_law_112 ?_
          refine yx_sld h hX dL_law_113 (by omega) ?_
          refine yx_goto h dL_law_114 ?_
          exact J122 (by omega) _
  intro σ μ hm hp
  refine yx_iconst h dL_law_90 (by decide) ?_
  refine yx_istore (L' := [(0, .ref b), (1, .ref (w.1 0)), (2, .int (nI n)), (3, .ref kw), (4, .int (nI 0))]) h dL_law_91 rfl (by decide) rfl ?_
  exact LP 9 0 (by omega) (by omega) hm hp.p2

set_option maxRecDepth 100000 in
set_option maxHeartbeats 8000000 in
theorem ls_4 {X : GX} {A : Nat → Prop} {w : Wd} (hW : Wi w) (h : Fy X A w cL_law 18 RL 9) {b Lx : Nat} {xs : Nat → Int32} (hX : SX X A b Lx xs) (hR : RoomX X) {c9 s9 : Nat} (hc : c9 ≤ 1000) (hs : s9 ≤ 100000) {n kw : Nat} (hn : 2 ≤ n ∧ n ≤ 8) (hkw : ¬ wA w kw) (hAw : A kw) {W : Nat → Int32} (next : ∀ {σ : Mem} {μ : Nat → Int32}, LM σ μ → P4 μ n W → JX X A w ([(kw, .inl (w.2.2.1.1, n, .inl W))]) 18 232 [(0, .ref b), (1, .ref (w.1 0)), (2, .int (nI n)), (3, .ref kw)] [] σ c9 s9) : ∀ {σ : Mem} {μ : Nat → Int32} {a : Nat}, LM σ μ → P2 μ n a 0 W → JX X A w ([(kw, .inl (w.2.2.1.1, n, .inl W))]) 18 200 [(0, .ref b), (1, .ref (w.1 0)), (2, .int (nI n)), (3, .ref kw)] [] σ c9 s9 := by
  have hLx : Lx < 4000 := hX.2.2.2
  have hkn : c9 ≤ X.2.2.2.1.cells ∧ s9 ≤ X.2.2.2.1.slots := ⟨by rw [hR.1]; omega, by rw [hR.2]; omega⟩
  intro σ μ a hm hp
  have hE : DX w [(kw, .inl (w.2.2.1.1, n, .inl W))] := dx1 hkw
  have J217 : ∀ v : Int32, JX X A w ([(kw, .inl (w.2.2.1.1, n, .inl W))]) 18 217 [(0, .ref b), (1, .ref (w.1 0)), (2, .int (nI n)), (3, .ref kw)] [.int v, .int (nI 4), .ref (w.1 0)] σ c9 s9 := by
    intro v
    refine yx_bipush h dL_law_217 (by decide) ?_
    have hamo := (amo_ok (v := v) (n := 6) (by decide) (by decide)).2
    refine yx_csp (rest := [.int (nI 4), .ref (w.1 0)]) h hE hkn (c_among hW v 6 (by decide) (by decide)) lL_among mL_10 (by decide) (by decide) rfl rfl rfl dL_law_219 ?_
    refine yx_iaddN h dL_law_222 ?_
    obtain ⟨g, hg⟩ := lm_tick (l := X.2.1) hW hm hp.2.1 (m := 4 + amo v 6) (by omega) (by omega)
    obtain ⟨hp4, e2⟩ := hp.tick (g := g) hm.mi (m := 4 + amo v 6) (by omega)
    rw [e2] at hg
    refine yx_cv (rest := []) h hE hkn (hg) lX11_tick mL_28 (by decide) (by decide) sc_0 rfl rfl rfl rfl dL_law_223 (fun σ4 hq4 => ?_)
    refine yx_iconst h dL_law_226 (by decide) ?_
    refine yx_icmpN_ge h dL_law_227 (by omega) (by omega) (fun _ => ?_) (fun q9 => False.elim (by omega))
    exact next hq4.1 hp4
  refine yx_aload_n h dL_law_200 1 rfl ?_
  refine yx_iconst h dL_law_201 (by decide) ?_
  refine yx_aload_n h dL_law_202 0 rfl ?_
  refine yx_slen h hX dL_law_203 ?_
  refine yx_bipush h dL_law_204 (by decide) ?_
  refine yx_icmpN_le h dL_law_206 (by omega) (by omega) (fun c1 => ?_) (fun c1 => ?_)
  · refine yx_iconst h dL_law_216 (by decide) ?_
    exact J217 _
  · refine yx_aload_n h dL_law_209 0 rfl ?_
    refine yx_bipush h dL_law_210 (by decide) ?_
    refine yx_sld h hX dL_law_212 (by omega) ?_
    refine yx_goto h dL_law_213 ?_
    exact J217 _
