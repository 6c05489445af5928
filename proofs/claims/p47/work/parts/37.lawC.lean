/-! the law's walk: the best WILL, what is refused, the end -/
theorem cs_w {X : GX} {w : Wd} (hW : Wi w) {σ : Mem} {μ : Nat → Int32} {who x y : Nat} (hm : LM σ (upd μ (16 + who) (nI y))) (hw : who < nN μ) (hx : x < 8) : MC X.2.1 w qL_sum 5 [.ref (w.1 0), .int (nI (nN μ)), .int (nI who), .int (nI x)] σ (some (.int (nI (fW μ who x)))) (fun σ' => LM σ' (upd μ (16 + who) (nI x))) := by
  have hN : nN (upd μ (16 + who) (nI y)) = nN μ := wl_N
  have := c_sum (l := X.2.1) hW hm hN (who := who) (x := x) (by rw [hN]; exact hw) hx
  rw [upd_upd] at this
  exact this
theorem bw8 {μ : Nat → Int32} {i : Nat} : (bwS μ i 8).1 ≤ 7 ∧ (bwS μ i 8).2 = fW μ i (bwS μ i 8).1 ∧ (∀ k, k ≤ 7 → (bwS μ i 8).2 ≤ fW μ i k) ∧ ∀ k, k ≤ 7 → fW μ i k = (bwS μ i 8).2 → (bwS μ i 8).1 ≤ k := bw_is 7

set_option maxRecDepth 100000 in
set_option maxHeartbeats 8000000 in
theorem ls_6c {X : GX} {A : Nat → Prop} {w : Wd} (hW : Wi w) (h : Fy X A w cL_law 18 RL 9) {b Lx : Nat} {xs : Nat → Int32} (hX : SX X A b Lx xs) (hR : RoomX X) {c9 s9 : Nat} (hc : c9 ≤ 1000) (hs : s9 ≤ 100000) {μ : Nat → Int32} {kw : Nat} (hkw : ¬ wA w kw) (hAw : A kw) (hI : MI μ) {who : Nat} (hw : who < nN μ) (hend : ∀ (L : List (Nat × Value)) (σ : Mem) (es : va_W), JX X A w es 18 951 L [.int (nI 1)] σ c9 s9) : ∀ {σ : Mem}, LM σ (upd μ (16 + who) (nI 7)) → JX X A w ([(kw, .inl (w.2.2.1.1, nN μ, .inl fun j => μ (16 + j)))]) 18 851 [(0, .ref b), (1, .ref (w.1 0)), (2, .int (nI (nN μ))), (3, .ref kw), (4, .int (wasS μ (nN μ))), (5, .int (nI (smC μ (nN μ)))), (6, .int (nI who)), (7, .int (nI ((bwS μ who 8).1))), (8, .int (nI (fW μ who (bwS μ who 8).1)))] [] σ c9 s9 := by
  have hLx : Lx < 4000 := hX.2.2.2
  have hkn : c9 ≤ X.2.2.2.1.cells ∧ s9 ≤ X.2.2.2.1.slots := ⟨by rw [hR.1]; omega, by rw [hR.2]; omega⟩
  have h8 := mi_8 hI
  have hp2 := p2_8 h8
  have hE : DX w [(kw, .inl (w.2.2.1.1, nN μ, .inl fun j => μ (16 + j)))] := dx1 hkw
  intro σ hm
  refine yx_iload h dL_law_851 7 rfl ?_
  refine yx_ifN_lt h dL_law_853 (by have := (bw8 (μ := μ) (i := who)).1; omega) ?_
  refine yx_aload_n h dL_law_856 1 rfl ?_
  refine yx_iload h dL_law_857 6 rfl ?_
  refine yx_aload_n h dL_law_859 3 rfl ?_
  refine yx_iload h dL_law_860 6 rfl ?_
  refine yx_iald (q0 := 0) h dL_law_862 rfl (by omega) (by omega) ?_
  refine yx_top (y := (nI (nA μ (16 + who)))) (mi_16 hI (by omega)) ?_
  have hI2 := hm.mi
  have hw2 : who < nN (upd μ (16 + who) (nI 7)) := by rw [wl_N]; exact hw
  refine yx_cv (rest := []) h hE hkn (lm_will hW hm hw2 (mb_16 hI (by omega))) lX11_will mL_79 (by decide) (by decide) sc_0 rfl rfl rfl rfl dL_law_863 (fun σ1 hq1 => ?_)
  refine yx_top (y := (nI 7)) (upd_eq) ?_
  refine yx_bipush h dL_law_866 (by decide) ?_
  refine yx_icmpN_eq h dL_law_868 (by omega) (by omega) (fun _ => ?_) (fun q9 => False.elim (q9 rfl))
  refine yx_aload_n h dL_law_873 1 rfl ?_
  refine yx_iload h dL_law_874 6 rfl ?_
  refine yx_bipush h dL_law_876 (by decide) ?_
  refine yx_cv (rest := []) h hE hkn (lm_willM hW hq1.1 (i := who)) lX11_will mL_79 (by decide) (by decide) sc_0 rfl rfl rfl rfl dL_law_878 (fun σ2 hq2 => ?_)
  refine yx_iconstv (v := -1) h dL_law_881 (by decide) ?_
  refine yx_icmp_ne h dL_law_882 (fun q9 => False.elim (q9 rfl)) (fun _ => ?_)
  refine yx_aload_n h dL_law_885 1 rfl ?_
  refine yx_cv (rest := []) h hE hkn (lm_status hW hq2.2) lX11_status mL_62 (by decide) (by decide) sc_0 rfl rfl rfl rfl dL_law_886 (fun σ3 hq3 => ?_)
  rw [hq3]
  refine yx_iconst h dL_law_889 (by decide) ?_
  refine yx_icmpN_ne h dL_law_890 (by omega) (by omega) (fun q9 => False.elim (q9 rfl)) (fun _ => ?_)
  refine yx_aload_n h dL_law_893 1 rfl ?_
  refine yx_iload_n h dL_law_894 2 rfl ?_
  refine yx_iconst h dL_law_895 (by decide) ?_
  refine yx_cv (rest := []) h hE hkn (lm_willN hW hq2.1 (by rw [wl_N, wl_N])) lX11_will mL_79 (by decide) (by decide) sc_0 rfl rfl rfl rfl dL_law_896 (fun σ4 hq4 => ?_)
  refine yx_iconstv (v := -1) h dL_law_899 (by decide) ?_
  refine yx_icmp_ne h dL_law_900 (fun q9 => False.elim (q9 rfl)) (fun _ => ?_)
  refine yx_aload_n h dL_law_903 1 rfl ?_
  refine yx_cv (rest := []) h hE hkn (lm_status hW hq4.2) lX11_status mL_62 (by decide) (by decide) sc_0 rfl rfl rfl rfl dL_law_904 (fun σ5 hq5 => ?_)
  rw [hq5]
  refine yx_iconst h dL_law_907 (by decide) ?_
  refine yx_icmpN_ne h dL_law_908 (by omega) (by omega) (fun q9 => False.elim (q9 rfl)) (fun _ => ?_)
  refine yx_aload_n h dL_law_911 1 rfl ?_
  refine yx_iconst h dL_law_912 (by decide) ?_
  refine yx_iconstv (v := -1) h dL_law_913 (by decide) ?_
  refine yx_cv (rest := []) h hE hkn (lm_pickM hW hq4.1) lX11_pick mL_82 (by decide) (by decide) sc_0 rfl rfl rfl rfl dL_law_914 (fun σ6 hq6 => ?_)
  refine yx_iconstv (v := -1) h dL_law_917 (by decide) ?_
  refine yx_icmp_ne h dL_law_918 (fun q9 => False.elim (q9 rfl)) (fun _ => ?_)
  refine yx_aload_n h dL_law_921 1 rfl ?_
  refine yx_cv (rest := []) h hE hkn (lm_status hW hq6.2) lX11_status mL_62 (by decide) (by decide) sc_0 rfl rfl rfl rfl dL_law_922 (fun σ7 hq7 => ?_)
  rw [hq7]
  refine yx_iconst h dL_law_925 (by decide) ?_
  refine yx_icmpN_ne h dL_law_926 (by omega) (by omega) (fun q9 => False.elim (q9 rfl)) (fun _ => ?_)
  refine yx_aload_n h dL_law_929 1 rfl ?_
  refine yx_iconstv (v := -1) h dL_law_930 (by decide) ?_
  refine yx_cv (rest := []) h hE hkn (lm_leastM hW hq6.1) lX11_least mL_56 (by decide) (by decide) sc_0 rfl rfl rfl rfl dL_law_931 (fun σ8 hq8 => ?_)
  refine yx_iconstv (v := -1) h dL_law_934 (by decide) ?_
  refine yx_icmp_ne h dL_law_935 (fun q9 => False.elim (q9 rfl)) (fun _ => ?_)
  refine yx_aload_n h dL_law_938 1 rfl ?_
  refine yx_cv (rest := []) h hE hkn (lm_status hW hq8.2) lX11_status mL_62 (by decide) (by decide) sc_0 rfl rfl rfl rfl dL_law_939 (fun σ9 hq9 => ?_)
  rw [hq9]
  refine yx_iconst h dL_law_942 (by decide) ?_
  refine yx_icmpN_ne h dL_law_943 (by omega) (by omega) (fun q9 => False.elim (q9 rfl)) (fun _ => ?_)
  refine yx_iconst h dL_law_946 (by decide) ?_
  refine yx_goto h dL_law_947 ?_
  exact hend _ _ _

set_option maxRecDepth 100000 in
set_option maxHeartbeats 8000000 in
theorem ls_6b {X : GX} {A : Nat → Prop} {w : Wd} (hW : Wi w) (h : Fy X A w cL_law 18 RL 9) {b Lx : Nat} {xs : Nat → Int32} (hX : SX X A b Lx xs) (hR : RoomX X) {c9 s9 : Nat} (hc : c9 ≤ 1000) (hs : s9 ≤ 100000) {μ : Nat → Int32} {kw : Nat} (hkw : ¬ wA w kw) (hAw : A kw) (hI : MI μ) {who : Nat} (hw : who < nN μ) (next : ∀ {σ : Mem}, LM σ (upd μ (16 + who) (nI 7)) → JX X A w ([(kw, .inl (w.2.2.1.1, nN μ, .inl fun j => μ (16 + j)))]) 18 851 [(0, .ref b), (1, .ref (w.1 0)), (2, .int (nI (nN μ))), (3, .ref kw), (4, .int (wasS μ (nN μ))), (5, .int (nI (smC μ (nN μ)))), (6, .int (nI who)), (7, .int (nI ((bwS μ who 8).1))), (8, .int (nI (fW μ who (bwS μ who 8).1)))] [] σ c9 s9) : ∀ {σ : Mem}, LM σ μ → JX X A w ([(kw, .inl (w.2.2.1.1, nN μ, .inl fun j => μ (16 + j)))]) 18 774 [(0, .ref b), (1, .ref (w.1 0)), (2, .int (nI (nN μ))), (3, .ref kw), (4, .int (wasS μ (nN μ))), (5, .int (nI (smC μ (nN μ)))), (6, .int (nI who)), (7, .int (nI ((bwS μ who 8).1)))] [] σ c9 s9 := by
  have hLx : Lx < 4000 := hX.2.2.2
  have hkn : c9 ≤ X.2.2.2.1.cells ∧ s9 ≤ X.2.2.2.1.slots := ⟨by rw [hR.1]; omega, by rw [hR.2]; omega⟩
  have h8 := mi_8 hI
  have hp2 := p2_8 h8
  have hE : DX w [(kw, .inl (w.2.2.1.1, nN μ, .inl fun j => μ (16 + j)))] := dx1 hkw
  have hb := bw8 (μ := μ) (i := who)
  have f64 : ∀ i k : Nat, fW μ i k ≤ 64 := fun i k => by have := smC_le (upd μ (16 + i) (nI k)) (nN μ); unfold fW; omega
  have LP : ∀ (f k y : Nat), k ≤ 8 → 8 - k < f → (k = 8 → y = 7) → ∀ {σ : Mem} (hm : LM σ (upd μ (16 + who) (nI y))), JX X A w ([(kw, .inl (w.2.2.1.1, nN μ, .inl fun j => μ (16 + j)))]) 18 788 [(0, .ref b), (1, .ref (w.1 0)), (2, .int (nI (nN μ))), (3, .ref kw), (4, .int (wasS μ (nN μ))), (5, .int (nI (smC μ (nN μ)))), (6, .int (nI who)), (7, .int (nI ((bwS μ who 8).1))), (8, .int (nI (fW μ who (bwS μ who 8).1))), (9, .int (nI k))] [] σ c9 s9 := by
    intro f
    induction f with
    | zero => intro k y _ h9; exact absurd h9 (Nat.not_lt_zero _)
    | succ f ih =>
      intro k y hk9 hf hy σ hm
      refine yx_iload h dL_law_788 9 rfl ?_
      refine yx_bipush h dL_law_790 (by decide) ?_
      refine yx_icmpN_ge h dL_law_792 (by omega) (by omega) (fun cc => ?_) (fun cc => ?_)
      · have e8 : k = 8 := by omega
        subst e8
        rw [show y = 7 from hy (by omega)] at hm
        exact yx_sub [0, 1, 2, 3, 4, 5, 6, 7, 8] rfl (next hm)
      · refine yx_aload_n h dL_law_795 1 rfl ?_
        refine yx_iload_n h dL_law_796 2 rfl ?_
        refine yx_iload h dL_law_797 6 rfl ?_
        refine yx_iload h dL_law_799 9 rfl ?_
        refine yx_cs (rest := []) h hE hkn (cs_w hW hm hw (x := k) (by omega)) lL_sum mL_75 (by decide) (by decide) rfl rfl rfl dL_law_801 (fun σs1 hs1 => ?_)
        refine yx_istore (L' := [(0, .ref b), (1, .ref (w.1 0)), (2, .int (nI (nN μ))), (3, .ref kw), (4, .int (wasS μ (nN μ))), (5, .int (nI (smC μ (nN μ)))), (6, .int (nI who)), (7, .int (nI ((bwS μ who 8).1))), (8, .int (nI (fW μ who (bwS μ who 8).1))), (9, .int (nI k)), (10, .int (nI (fW μ who k)))]) h dL_law_804 rfl (by decide) rfl ?_
        refine yx_iload h dL_law_806 10 rfl ?_
        refine yx_iload h dL_law_808 8 rfl ?_
        refine yx_icmpN_lt h dL_law_810 (by have := f64 who k; have := f64 who (bwS μ who 8).1; omega) (by have := f64 who k; have := f64 who (bwS μ who 8).1; omega) (fun q9 => False.elim (by have := hb.2.2.1 k (by omega); have := hb.2.1; omega)) (fun _ => ?_)
        refine yx_iload h dL_law_813 10 rfl ?_
        refine yx_iload h dL_law_815 8 rfl ?_
        refine yx_icmpN_ne h dL_law_817 (by have := f64 who k; have := f64 who (bwS μ who 8).1; omega) (by have := f64 who k; have := f64 who (bwS μ who 8).1; omega) (fun c1 => ?_) (fun c1 => ?_)
        · refine yx_iload h dL_law_827 9 rfl ?_
          refine yx_aload_n h dL_law_829 3 rfl ?_
          refine yx_iload h dL_law_830 6 rfl ?_
          refine yx_iald (q0 := 0) h dL_law_832 rfl (by omega) (by omega) ?_
          refine yx_top (y := (nI (nA μ (16 + who)))) (mi_16 hI (by omega)) ?_
          refine yx_icmpN_ne h dL_law_833 (by have := mb_16 hI (j := who) (by omega); omega) (by have := mb_16 hI (j := who) (by omega); omega) (fun c2 => ?_) (fun c2 => ?_)
          · refine yx_iincN (L' := [(0, .ref b), (1, .ref (w.1 0)), (2, .int (nI (nN μ))), (3, .ref kw), (4, .int (wasS μ (nN μ))), (5, .int (nI (smC μ (nN μ)))), (6, .int (nI who)), (7, .int (nI ((bwS μ who 8).1))), (8, .int (nI (fW μ who (bwS μ who 8).1))), (9, .int (nI (k + 1))), (10, .int (nI (fW μ who k)))]) h dL_law_845 9 rfl rfl (by decide) (by decide) rfl ?_
            refine yx_goto h dL_law_848 ?_
            exact yx_sub [0, 1, 2, 3, 4, 5, 6, 7, 8, 9] rfl (ih (k + 1) k (by omega) (by omega) (fun z => by omega) hs1)
          · refine yx_iload h dL_law_836 10 rfl ?_
            refine yx_iload h dL_law_838 5 rfl ?_
            refine yx_icmpN_eq h dL_law_840 (by have := f64 who k; have := smC_le μ (nN μ); omega) (by have := f64 who k; have := smC_le μ (nN μ); omega) (fun _ => ?_) (fun q9 => False.elim (q9 (fW_id (by rw [c2]; exact mi_16 hI (by omega)))))
            refine yx_iincN (L' := [(0, .ref b), (1, .ref (w.1 0)), (2, .int (nI (nN μ))), (3, .ref kw), (4, .int (wasS μ (nN μ))), (5, .int (nI (smC μ (nN μ)))), (6, .int (nI who)), (7, .int (nI ((bwS μ who 8).1))), (8, .int (nI (fW μ who (bwS μ who 8).1))), (9, .int (nI (k + 1))), (10, .int (nI (fW μ who k)))]) h dL_law_845 9 rfl rfl (by decide) (by decide) rfl ?_
            refine yx_goto h dL_law_848 ?_
            exact yx_sub [0, 1, 2, 3, 4, 5, 6, 7, 8, 9] rfl (ih (k + 1) k (by omega) (by omega) (fun z => by omega) hs1)
        · refine yx_iload h dL_law_820 9 rfl ?_
          refine yx_iload h dL_law_822 7 rfl ?_
          refine yx_icmpN_lt h dL_law_824 (by have := hb.1; omega) (by have := hb.1; omega) (fun q9 => False.elim (by have := hb.2.2.2 k (by omega) (by rw [hb.2.1]; exact c1); omega)) (fun _ => ?_)
          refine yx_iload h dL_law_827 9 rfl ?_
          refine yx_aload_n h dL_law_829 3 rfl ?_
          refine yx_iload h dL_law_830 6 rfl ?_
          refine yx_iald (q0 := 0) h dL_law_832 rfl (by omega) (by omega) ?_
          refine yx_top (y := (nI (nA μ (16 + who)))) (mi_16 hI (by omega)) ?_
          refine yx_icmpN_ne h dL_law_833 (by have := mb_16 hI (j := who) (by omega); omega) (by have := mb_16 hI (j := who) (by omega); omega) (fun c2 => ?_) (fun c2 => ?_)
          · refine yx_iincN (L' := [(0, .ref b), (1, .ref (w.1 0)), (2, .int (nI (nN μ))), (3, .ref kw), (4, .int (wasS μ (nN μ))), (5, .int (nI (smC μ (nN μ)))), (6, .int (nI who)), (7, .int (nI ((bwS μ who 8).1))), (8, .int (nI (fW μ who (bwS μ who 8).1))), (9, .int (nI (k + 1))), (10, .int (nI (fW μ who k)))]) h dL_law_845 9 rfl rfl (by decide) (by decide) rfl ?_
            refine yx_goto h dL_law_848 ?_
            exact yx_sub [0, 1, 2, 3, 4, 5, 6, 7, 8, 9] rfl (ih (k + 1) k (by omega) (by omega) (fun z => by omega) hs1)
          · refine yx_iload h dL_law_836 10 rfl ?_
            refine yx_iload h dL_law_838 5 rfl ?_
            refine yx_icmpN_eq h dL_law_840 (by have := f64 who k; have := smC_le μ (nN μ); omega) (by have := f64 who k; have := smC_le μ (nN μ); omega) (fun _ => ?_) (fun q9 => False.elim (q9 (fW_id (by rw [c2]; exact mi_16 hI (by omega)))))
            refine yx_iincN (L' := [(0, .ref b), (1, .ref (w.1 0)), (2, .int (nI (nN μ))), (3, .ref kw), (4, .int (wasS μ (nN μ))), (5, .int (nI (smC μ (nN μ)))), (6, .int (nI who)), (7, .int (nI ((bwS μ who 8).1))), (8, .int (nI (fW μ who (bwS μ who 8).1))), (9, .int (nI (k + 1))), (10, .int (nI (fW μ who k)))]) h dL_law_845 9 rfl rfl (by decide) (by decide) rfl ?_
            refine yx_goto h dL_law_848 ?_
            exact yx_sub [0, 1, 2, 3, 4, 5, 6, 7, 8, 9] rfl (ih (k + 1) k (by omega) (by omega) (fun z => by omega) hs1)
  intro σ hm
  refine yx_aload_n h dL_law_774 1 rfl ?_
  refine yx_iload_n h dL_law_775 2 rfl ?_
  refine yx_iload h dL_law_776 6 rfl ?_
  refine yx_iload h dL_law_778 7 rfl ?_
  have hbs := cs_w (X := X) hW (y := nA μ (16 + who)) (by rw [← mi_16 hI (by omega), upd_id]; exact hm) hw (x := (bwS μ who 8).1) (by have := hb.1; omega)
  refine yx_cs (rest := []) h hE hkn (hbs) lL_sum mL_75 (by decide) (by decide) rfl rfl rfl dL_law_780 (fun σs2 hs2 => ?_)
  refine yx_istore (L' := [(0, .ref b), (1, .ref (w.1 0)), (2, .int (nI (nN μ))), (3, .ref kw), (4, .int (wasS μ (nN μ))), (5, .int (nI (smC μ (nN μ)))), (6, .int (nI who)), (7, .int (nI ((bwS μ who 8).1))), (8, .int (nI (fW μ who (bwS μ who 8).1)))]) h dL_law_783 rfl (by decide) rfl ?_
  refine yx_iconst h dL_law_785 (by decide) ?_
  refine yx_istore (L' := [(0, .ref b), (1, .ref (w.1 0)), (2, .int (nI (nN μ))), (3, .ref kw), (4, .int (wasS μ (nN μ))), (5, .int (nI (smC μ (nN μ)))), (6, .int (nI who)), (7, .int (nI ((bwS μ who 8).1))), (8, .int (nI (fW μ who (bwS μ who 8).1))), (9, .int (nI 0))]) h dL_law_786 rfl (by decide) rfl ?_
  exact LP 9 0 (bwS μ who 8).1 (by omega) (by omega) (fun z => by omega) hs2

set_option maxRecDepth 100000 in
set_option maxHeartbeats 8000000 in
theorem ls_6 {X : GX} {A : Nat → Prop} {w : Wd} (hW : Wi w) (h : Fy X A w cL_law 18 RL 9) {b Lx : Nat} {xs : Nat → Int32} (hX : SX X A b Lx xs) (hR : RoomX X) {c9 s9 : Nat} (hc : c9 ≤ 1000) (hs : s9 ≤ 100000) {μ : Nat → Int32} {kw : Nat} (hkw : ¬ wA w kw) (hAw : A kw) (hI : MI μ) (hn2 : 2 ≤ nN μ) (hend : ∀ (L : List (Nat × Value)) (σ : Mem) (es : va_W), JX X A w es 18 951 L [.int (nI 1)] σ c9 s9) : ∀ {σ : Mem}, LM σ μ → JX X A w ([(kw, .inl (w.2.2.1.1, nN μ, .inl fun j => μ (16 + j)))]) 18 727 [(0, .ref b), (1, .ref (w.1 0)), (2, .int (nI (nN μ))), (3, .ref kw), (4, .int (wasS μ (nN μ))), (5, .int (nI (smC μ (nN μ))))] [] σ c9 s9 := by
  have hLx : Lx < 4000 := hX.2.2.2
  have hkn : c9 ≤ X.2.2.2.1.cells ∧ s9 ≤ X.2.2.2.1.slots := ⟨by rw [hR.1]; omega, by rw [hR.2]; omega⟩
  have h8 := mi_8 hI
  have hp2 := p2_8 h8
  have hE : DX w [(kw, .inl (w.2.2.1.1, nN μ, .inl fun j => μ (16 + j)))] := dx1 hkw
  intro σ hm
  have J760 : ∀ {σ : Mem} (hm : LM σ μ) (v : Int32), JX X A w ([(kw, .inl (w.2.2.1.1, nN μ, .inl fun j => μ (16 + j)))]) 18 760 [(0, .ref b), (1, .ref (w.1 0)), (2, .int (nI (nN μ))), (3, .ref kw), (4, .int (wasS μ (nN μ))), (5, .int (nI (smC μ (nN μ))))] [.int v] σ c9 s9 := by
    intro σ hm v
    refine yx_iload_n h dL_law_760 2 rfl ?_
    have hamo := (amo_ok (v := v) (n := nN μ) (by omega) (by omega)).2
    refine yx_csp (rest := []) h hE hkn (c_among hW v (nN μ) (by omega) (by omega)) lL_among mL_10 (by decide) (by decide) rfl rfl rfl dL_law_761 ?_
    refine yx_istore (L' := [(0, .ref b), (1, .ref (w.1 0)), (2, .int (nI (nN μ))), (3, .ref kw), (4, .int (wasS μ (nN μ))), (5, .int (nI (smC μ (nN μ)))), (6, .int (nI (amo v (nN μ))))]) h dL_law_764 rfl (by decide) rfl ?_
    refine yx_aload_n h dL_law_766 1 rfl ?_
    refine yx_iload h dL_law_767 6 rfl ?_
    refine yx_cv (rest := []) h hE hkn (lm_best hW hm hamo) lX11_bestWill mL_72 (by decide) (by decide) sc_0 rfl rfl rfl rfl dL_law_769 (fun σ10 hq10 => ?_)
    refine yx_istore (L' := [(0, .ref b), (1, .ref (w.1 0)), (2, .int (nI (nN μ))), (3, .ref kw), (4, .int (wasS μ (nN μ))), (5, .int (nI (smC μ (nN μ)))), (6, .int (nI (amo v (nN μ)))), (7, .int (nI ((bwS μ (amo v (nN μ)) 8).1)))]) h dL_law_772 rfl (by decide) rfl ?_
    exact ls_6b hW h hX hR hc hs hkw hAw hI hamo (fun {σ2} hm2 => ls_6c hW h hX hR hc hs hkw hAw hI hamo hend hm2) hq10.1
  refine yx_aload_n h dL_law_727 1 rfl ?_
  refine yx_cv (rest := []) h hE hkn (lm_waste hW hm) lX11_waste mL_69 (by decide) (by decide) sc_0 rfl rfl rfl rfl dL_law_728 (fun σ11 hq11 => ?_)
  refine yx_iload h dL_law_731 4 rfl ?_
  refine yx_icmp_ne h dL_law_733 (fun q9 => False.elim (q9 rfl)) (fun _ => ?_)
  refine yx_aload_n h dL_law_736 1 rfl ?_
  refine yx_cv (rest := []) h hE hkn (lm_status hW hq11.2) lX11_status mL_62 (by decide) (by decide) sc_0 rfl rfl rfl rfl dL_law_737 (fun σ12 hq12 => ?_)
  rw [hq12]
  refine yx_ifN_eq h dL_law_740 (by omega) (fun _ => ?_) (fun q9 => False.elim (q9 rfl))
  refine yx_aload_n h dL_law_745 0 rfl ?_
  refine yx_slen h hX dL_law_746 ?_
  refine yx_bipush h dL_law_747 (by decide) ?_
  refine yx_icmpN_le h dL_law_749 (by omega) (by omega) (fun c1 => ?_) (fun c1 => ?_)
  · refine yx_iconst h dL_law_759 (by decide) ?_
    exact J760 hq11.1 _
  · refine yx_aload_n h dL_law_752 0 rfl ?_
    refine yx_bipush h dL_law_753 (by decide) ?_
    refine yx_sld h hX dL_law_755 (by omega) ?_
    refine yx_goto h dL_law_756 ?_
    exact J760 hq11.1 _
