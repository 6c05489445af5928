theorem sp_256 {μ : Nat → Int32} (h8 : nN μ ≤ 8) : 2 ^ nN μ ≤ 256 := Nat.pow_le_pow_right (n := 2) (by decide) h8
theorem xor_nn {a b : Nat} (ha : a < 2 ^ 31) (hb : b < 2 ^ 31) : ¬ nI a ^^^ nI b < 0 := fun h => by
  have m : ∀ n, n < 2 ^ 31 → (nI n).toBitVec.msb = false := fun n hn => by
    rw [BitVec.msb_eq_toInt]
    apply decide_eq_false
    have := nI_toInt hn
    show ¬ (nI n).toInt < 0
    omega
  have h2 : (nI a ^^^ nI b).toBitVec.msb = false := by rw [Int32.toBitVec_xor, BitVec.msb_xor, m a ha, m b hb]; rfl
  rw [BitVec.msb_eq_toInt] at h2
  have h0 := of_decide_eq_false h2
  have h1 := Int32.lt_iff_toInt_lt.mp h
  have e : (0 : Int32).toInt = 0 := by decide
  rw [e] at h1
  exact h0 h1
theorem oI_or (v : Option Nat) : (v = none ∧ oI v = -1) ∨ (∃ b, v = some b ∧ oI v = nI b) := by
  cases v with
  | none => exact Or.inl ⟨rfl, rfl⟩
  | some b => exact Or.inr ⟨b, rfl, rfl⟩
theorem MC.imp {l : Launch} {w : Wd} {q : Mq} {d : Nat} {av : List Value} {σ : Mem} {v : Option Value} {P P' : Mem → Prop} (h : MC l w q d av σ v P) (hi : ∀ σ', P σ' → P' σ') : MC l w q d av σ v P' := by
  unfold MC Met at *
  intro p e ha hc hk s m args below hf happ hP hK
  obtain ⟨n, o, h1, h2, h3, ⟨⟨⟨e1, σ', e2, e3⟩, e4⟩, e5⟩⟩ := h p e ha hc hk s m args below hf happ hP hK
  exact ⟨n, o, h1, h2, h3, ⟨⟨⟨e1, σ', hi σ' e2, e3⟩, e4⟩, e5⟩⟩

set_option maxRecDepth 100000 in
set_option maxHeartbeats 4000000 in
theorem c_relaysOfAll {l : Launch} {w : Wd} (hW : Wi w) {σ : Mem} (μ : Nat → Int32) (hv : vw (vb 0) σ = μ) (hI : MI μ) : MC l w qX11_relaysOfAll 2 [.ref (w.1 12)] σ (some (.int (spn μ))) (fun σ' => σ' = σ) := by
  refine MC.of hW (by decide +kernel) (Nat.le_of_ble_eq_true rfl) (fun X h hQ hnm => ?_)
  have h : Fx X w cX11_relaysOfAll 3 RX11 2 := h
  have hQ : Qx X w (some .int) (some (.int (spn μ))) (fun σ' => σ' = σ) := hQ
  have hN8 := mi_8 hI
  show G X w 3 0 [(0, .ref (w.1 12))] [] σ
  refine g_iconst h dX11_relaysOfAll_0 (by decide) ?_
  refine g_istore_n (L' := [(0, .ref (w.1 12)), (1, .int (nI 0))]) h dX11_relaysOfAll_1 rfl (by decide) rfl ?_
  refine g_iconst h dX11_relaysOfAll_2 (by decide) ?_
  refine g_istore_n (L' := [(0, .ref (w.1 12)), (1, .int (nI 0)), (2, .int (nI 0))]) h dX11_relaysOfAll_3 rfl (by decide) rfl ?_
  have lp4 : ∀ (k9 : Nat) (s : Int32) (i : Nat), (s = orS (fun i => if tb (μ 1) i = true then μ (48 + i) else nI 0) i) → (i ≤ nN μ) → nN μ - i < k9 → G X w 3 4 [(0, .ref (w.1 12)), (1, .int s), (2, .int (nI i))] [] σ := by
    intro k9
    induction k9 with
    | zero => intro s i hs hi hm9; exact absurd hm9 (Nat.not_lt_zero _)
    | succ k9 ih4 =>
      intro s i hs hi hm4
      refine g_iload_n h dX11_relaysOfAll_4 2 rfl ?_
      refine g_aload_n h dX11_relaysOfAll_5 0 rfl ?_
      refine g_getr h dX11_relaysOfAll_6 gX11_23 sc_12 rfl ?_
      refine g_geti h dX11_relaysOfAll_9 gX11_120 (sM_0 (m := 0) (by decide)) rfl ?_
      refine g_top (y := μ 0) (vw_pic (b := (vb 0)) (k := 0) (by first | exact hv | assumption) (by omega)) ?_
      refine g_top (y := nI (nN μ)) (mi_0 (by assumption)) ?_
      refine g_icmpN_ge h dX11_relaysOfAll_12 (by omega) (by omega) (fun c12 => ?_) (fun c12 => ?_)
      ·
        refine g_iload_n h dX11_relaysOfAll_47 1 rfl ?_
        refine g_aload_n h dX11_relaysOfAll_48 0 rfl ?_
        refine g_getr h dX11_relaysOfAll_49 gX11_23 sc_12 rfl ?_
        refine g_geti h dX11_relaysOfAll_52 gX11_123 (sM_0 (m := 0) (by decide)) rfl ?_
        refine g_top (y := μ 1) (vw_pic (b := (vb 0)) (k := 1) (by first | exact hv | assumption) (by omega)) ?_
        refine g_iand h dX11_relaysOfAll_55  ?_
        exact g_iret h hQ dX11_relaysOfAll_56 (congrArg (fun z => some (Value.int z)) (show (spn μ) = (s &&& (μ 1)) by unfold spn; rw [← show i = nN μ from by omega, hs])) rfl
      ·
        refine g_aload_n h dX11_relaysOfAll_15 0 rfl ?_
        refine g_getr h dX11_relaysOfAll_16 gX11_23 sc_12 rfl ?_
        refine g_iload_n h dX11_relaysOfAll_19 2 rfl ?_
        refine g_cvpi (rest := []) h (c_isOnJ hW i 0 μ (by first | omega | decide | fail) (by first | exact hv | assumption | fail) (by assumption) (by omega)) lX5_isOn mX11_167 (Nat.lt_of_lt_of_le (by decide) (Nat.le_refl _)) (by decide) (sM_0 (m := 0) (by decide)) rfl rfl rfl rfl dX11_relaysOfAll_20 ?_
        refine g_ifB_eq h dX11_relaysOfAll_23 (fun c23 => ?_) (fun c23 => ?_)
        ·
          refine g_iincN (b := 1) (L' := [(0, .ref (w.1 12)), (1, .int s), (2, .int (nI (i + 1)))]) h dX11_relaysOfAll_41 2 rfl rfl (by decide) (by decide) rfl ?_
          refine g_goto h dX11_relaysOfAll_44 ?_
          exact ih4 s (i + 1) (by simp only [orS]; rw [← hs]; simp [c12, c23, or_n0]) (by omega) (by omega)
        ·
          refine g_iload_n h dX11_relaysOfAll_26 1 rfl ?_
          refine g_aload_n h dX11_relaysOfAll_27 0 rfl ?_
          refine g_getr h dX11_relaysOfAll_28 gX11_23 sc_12 rfl ?_
          refine g_getr h dX11_relaysOfAll_31 gX11_181 (sM_0 (m := 0) (by decide)) rfl ?_
          refine g_getr h dX11_relaysOfAll_34 gX11_197 (sM_4 (m := 0) (by decide)) rfl ?_
          refine g_iload_n h dX11_relaysOfAll_37 2 rfl ?_
          refine g_iald h dX11_relaysOfAll_38 (sM_10 (m := 0) (by decide)) (by omega) ?_
          refine g_top (y := μ (48 + i)) (vw_pic (b := (vb 0)) (k := 48 + i) (by first | exact hv | assumption) (by omega)) ?_
          refine g_ior h dX11_relaysOfAll_39  ?_
          refine g_istore_n (L' := [(0, .ref (w.1 12)), (1, .int (s ||| (μ (48 + i)))), (2, .int (nI i))]) h dX11_relaysOfAll_40 rfl (by decide) rfl ?_
          refine g_iincN (b := 1) (L' := [(0, .ref (w.1 12)), (1, .int (s ||| (μ (48 + i)))), (2, .int (nI (i + 1)))]) h dX11_relaysOfAll_41 2 rfl rfl (by decide) (by decide) rfl ?_
          refine g_goto h dX11_relaysOfAll_44 ?_
          exact ih4 (s ||| (μ (48 + i))) (i + 1) (by simp only [orS]; rw [← hs]; simp [c12, c23, or_n0]) (by omega) (by omega)
  exact lp4 (_) (nI 0) 0 (by rfl) (by omega) (Nat.lt_succ_self _)

set_option maxRecDepth 100000 in
set_option maxHeartbeats 4000000 in
theorem j_mxO {l : Launch} {w : Wd} (hW : Wi w) {σ : Mem} (v : Option Nat) (hv : ∀ b, v = some b → b < 256) : MC l w qJ9_max_7cf53 0 [.int (nI 0), .int (oI v)] σ (some (.int (nI (o0 v)))) (fun σ' => σ' = σ) := by
  refine MC.ofF hW (by decide +kernel) (Nat.le_of_ble_eq_true rfl) (fun X h hQ hnm => ?_)
  have h : Fx X w cJ9_max_7cf53 2 RJ9 0 := h
  have hQ : Qx X w (some .int) (some (.int (nI (o0 v)))) (fun σ' => σ' = σ) := hQ
  show G X w 2 0 [(0, .int (nI 0)), (1, .int (oI v))] [] σ
  rcases oI_or v with ⟨hn, he⟩ | ⟨b, hn, he⟩
  ·
    rw [he]
    show G X w 2 0 [(0, .int (nI 0)), (1, .int (-1))] [] σ
    refine g_iload_n h dJ9_max_7cf53_0 0 rfl ?_
    refine g_iload_n h dJ9_max_7cf53_1 1 rfl ?_
    refine g_icmp_lt h dJ9_max_7cf53_2 (fun c2 => (by exfalso; first | exact c2 rfl | exact nI_ne_m1 (by omega) c2 | exact c2 (nI_ne_m1 (by omega)) | exact nI_le_m1 (by omega) c2 | exact c2 (m1_lt (by omega)) | exact absurd c2 (by decide))) (fun c2 => ?_)
    refine g_iload_n h dJ9_max_7cf53_5 0 rfl ?_
    refine g_goto h dJ9_max_7cf53_6 ?_
    exact g_iret h hQ dJ9_max_7cf53_10 (congrArg (fun z => some (Value.int z)) (show (nI (o0 v)) = (nI 0) by first | (rw [hn]; rfl) | (rw [hn]; exact congrArg nI (show b = 0 by omega)) | fail)) rfl
  ·
    rw [he]
    have hb9 := hv b hn
    show G X w 2 0 [(0, .int (nI 0)), (1, .int (nI b))] [] σ
    refine g_iload_n h dJ9_max_7cf53_0 0 rfl ?_
    refine g_iload_n h dJ9_max_7cf53_1 1 rfl ?_
    refine g_icmpN_lt h dJ9_max_7cf53_2 (by omega) (by omega) (fun c2 => ?_) (fun c2 => ?_)
    ·
      refine g_iload_n h dJ9_max_7cf53_9 1 rfl ?_
      exact g_iret h hQ dJ9_max_7cf53_10 (congrArg (fun z => some (Value.int z)) (show (nI (o0 v)) = (nI b) by first | (rw [hn]; rfl) | (rw [hn]; exact congrArg nI (show b = 0 by omega)) | fail)) rfl
    ·
      refine g_iload_n h dJ9_max_7cf53_5 0 rfl ?_
      refine g_goto h dJ9_max_7cf53_6 ?_
      exact g_iret h hQ dJ9_max_7cf53_10 (congrArg (fun z => some (Value.int z)) (show (nI (o0 v)) = (nI 0) by first | (rw [hn]; rfl) | (rw [hn]; exact congrArg nI (show b = 0 by omega)) | fail)) rfl

set_option maxRecDepth 100000 in
set_option maxHeartbeats 4000000 in
theorem q_spine {l : Launch} {w : Wd} (hW : Wi w) {σ : Mem} (wt : Int32)  (μ : Nat → Int32) (hv : vw 0 σ = μ) (hI : MI μ) : MC l w qX12_spine 5 [.ref (w.1 0), .int wt] σ (some (.int (an (rg wt (nI 0) (nI 2)) (v_spine μ (toN wt))))) (fun σ' => (σ' 4000 = (nI (rg wt (nI 0) (nI 2)))) ∧ (∀ a, ((a < 4900 ∨ 6000 ≤ a) ∧ a ≠ 4000) → σ' a = σ a)) := by
  refine MC.of hW (by decide +kernel) (Nat.le_of_ble_eq_true rfl) (fun X h hQ hnm => ?_)
  have h : Fx X w cX12_spine 4 RX12 5 := h
  have hQ : Qx X w (some .int) (some (.int (an (rg wt (nI 0) (nI 2)) (v_spine μ (toN wt))))) (fun σ' => (σ' 4000 = (nI (rg wt (nI 0) (nI 2)))) ∧ (∀ a, ((a < 4900 ∨ 6000 ≤ a) ∧ a ≠ 4000) → σ' a = σ a)) := hQ
  have hN8 := mi_8 hI
  have hp2 := sp_256 hN8
  have hcFR_σ : ∀ a, ((a < 4900 ∨ 6000 ≤ a) ∧ a ≠ 4000) → σ a = σ a := fun _ _ => rfl
  show G X w 4 0 [(0, .ref (w.1 0)), (1, .int wt)] [] σ
  refine g_iload_n h dX12_spine_0 1 rfl ?_
  refine g_iconst h dX12_spine_1 (by decide) ?_
  refine g_iconst h dX12_spine_2 (by decide) ?_
  refine g_cspi (rest := []) h (r_isFrom hW wt (nI 0) (nI 2) ) lX12_isFrom mX12_134 (Nat.lt_of_lt_of_le (by decide) (Nat.le_refl _)) (by decide) rfl rfl rfl dX12_spine_3 ?_
  refine g_ifB_ne h dX12_spine_6 (fun c6 => ?_) (fun c6 => ?_)
  ·
    obtain ⟨ew, hw9⟩ := fr_N (by decide) c6
    rw [ew]
    show G X w 4 15 [(0, .ref (w.1 0)), (1, .int (nI (toN wt)))] [] σ
    refine g_iload_n h dX12_spine_15 1 rfl ?_
    refine g_ifN_ne h dX12_spine_16 (by omega) (fun c16 => ?_) (fun c16 => ?_)
    ·
      refine g_iload_n h dX12_spine_28 1 rfl ?_
      refine g_iconst h dX12_spine_29 (by decide) ?_
      refine g_icmpN_ne h dX12_spine_30 (by omega) (by omega) (fun c30 => ?_) (fun c30 => ?_)
      ·
        refine g_iconstv h dX12_spine_54 (v := (-1)) (by decide) ?_
        refine g_istore_n (L' := [(0, .ref (w.1 0)), (1, .int (nI (toN wt))), (2, .int (-1))]) h dX12_spine_55 rfl (by decide) rfl ?_
        refine g_iconst h dX12_spine_56 (by decide) ?_
        refine g_istore_n (L' := [(0, .ref (w.1 0)), (1, .int (nI (toN wt))), (2, .int (-1)), (3, .int (nI 0))]) h dX12_spine_57 rfl (by decide) rfl ?_
        have lp58 : ∀ (k9 : Nat) (v : Option Nat) (n : Nat), (sbO μ n = v) → (n ≤ 2 ^ nN μ) → (∀ b, v = some b → b < 256) → 2 ^ nN μ - n < k9 → G X w 4 58 [(0, .ref (w.1 0)), (1, .int (nI (toN wt))), (2, .int (oI v)), (3, .int (nI n))] [] σ := by
          intro k9
          induction k9 with
          | zero => intro v n hs hn hv2 hm9; exact absurd hm9 (Nat.not_lt_zero _)
          | succ k9 ih58 =>
            intro v n hs hn hv2 hm58
            refine g_iload_n h dX12_spine_58 3 rfl ?_
            refine g_iconst h dX12_spine_59 (by decide) ?_
            refine g_aload_n h dX12_spine_60 0 rfl ?_
            refine g_iconst h dX12_spine_61 (by decide) ?_
            refine g_cvpi (rest := [.int (nI 1), .int (nI n)]) h (r_of hW 0 μ (by assumption) (by omega)) lX12_of mX12_61 (Nat.lt_of_lt_of_le (by decide) (Nat.le_refl _)) (by decide) sc_0 rfl rfl rfl rfl dX12_spine_62 ?_
            refine g_top (y := nI (nN μ)) (mi_0 (by assumption)) ?_
            refine g_ishl h dX12_spine_65  ?_
            refine g_top (y := (nI (2 ^ nN μ))) (bt1_pow hN8) ?_
            refine g_icmpN_ge h dX12_spine_66 (by omega) (by omega) (fun c66 => ?_) (fun c66 => ?_)
            ·
              refine g_aload_n h dX12_spine_101 0 rfl ?_
              refine g_iconst h dX12_spine_102 (by decide) ?_
              refine g_iload_n h dX12_spine_103 2 rfl ?_
              refine g_cspi (rest := [.ref (w.1 0)]) h (j_mxO hW v (by exact hv2)) lJ9_max_7cf53 mX12_173 (Nat.lt_of_lt_of_le (by decide) (Nat.le_refl _)) (by decide) rfl rfl rfl dX12_spine_104 ?_
              refine g_cvi (rest := []) h (r_gives hW (nI (o0 v)) ) lX12_gives mX12_281 (Nat.lt_of_lt_of_le (by decide) (Nat.le_refl _)) (by decide) sc_0 rfl rfl rfl rfl dX12_spine_107 (fun σ_1 eσ_1 => ?_)
              have eσ_1_a : σ_1 = upd σ 4000 (nI 0) := eσ_1
              have ht4000_σ_1 : σ_1 4000 = (nI 0) := by rw [eσ_1_a]; exact upd_eq
              have hcFR_σ_1 : ∀ a, ((a < 4900 ∨ 6000 ≤ a) ∧ a ≠ 4000) → σ_1 a = σ a := by intro a ha; exact Eq.trans (b := σ a) (by rw [eσ_1_a, upd_ne (by first | omega | (simp only [vb] at *; omega))]) (hcFR_σ a ha)
              have hvσ_1 : vw 0 σ_1 = μ := by rw [eσ_1_a, vw_out (by omega)]; first | exact hv | assumption
              exact g_iret h hQ dX12_spine_110 (congrArg (fun z => some (Value.int z)) (show (an (rg wt (nI 0) (nI 2)) (v_spine μ (toN wt))) = (nI (o0 v)) by first | exact an_yes (by first | rfl | (simp [fo, rg, ns, nB, ps, gst, ofS, offB, c6, c16, c30, c66]; done) | (simp [fo, rg, ns, nB, ps, gst, ofS, offB, c6, c16, c30, c66]; omega)) (by first | (unfold v_spine; rw [if_neg c16, if_neg c30, sm_o0 hI, show (2 : Nat) ^ nN μ = n from by omega, hs]; done) | (unfold v_spine; rw [if_pos c16]; done) | (unfold v_spine; rw [if_neg c16, if_pos c30, c42]; done) | (unfold v_spine; rw [if_neg c16, if_pos c30, c42]; rfl)) | exact an_no (k := 0) (by first | rfl | (simp [fo, rg, ns, nB, ps, gst, ofS, offB, c6, c16, c30, c66]; done) | (simp [fo, rg, ns, nB, ps, gst, ofS, offB, c6, c16, c30, c66]; omega)) (by first | decide | omega | assumption | exact nb1 (by assumption)) | fail)) (by exact ⟨(by first | exact tk_eq (k := 0) (by first | rfl | (simp [fo, rg, ns, nB, ps, gst, ofS, offB, c6, c16, c30, c66]; done) | (simp [fo, rg, ns, nB, ps, gst, ofS, offB, c6, c16, c30, c66]; omega)) ht4000_σ_1 | exact tk_eq (k := 0) (by first | rfl | (simp [fo, rg, ns, nB, ps, gst, ofS, offB, c6, c16, c30, c66]; done) | (simp [fo, rg, ns, nB, ps, gst, ofS, offB, c6, c16, c30, c66]; omega)) ht4000_σ_1 | fail), (by exact hcFR_σ_1)⟩)
            ·
              rcases v with _ | b
              ·
                show G X w 4 69 [(0, .ref (w.1 0)), (1, .int (nI (toN wt))), (2, .int (-1)), (3, .int (nI n))] [] σ
                refine g_iload_n h dX12_spine_69 2 rfl ?_
                refine g_iconstv h dX12_spine_70 (v := (-1)) (by decide) ?_
                refine g_icmp_eq h dX12_spine_71 (fun c71 => ?_) (fun c71 => (by exfalso; first | exact c71 rfl | exact nI_ne_m1 (by omega) c71 | exact c71 (nI_ne_m1 (by omega)) | exact nI_le_m1 (by omega) c71 | exact c71 (m1_lt (by omega)) | exact absurd c71 (by decide)))
                refine g_aload_n h dX12_spine_85 0 rfl ?_
                refine g_iload_n h dX12_spine_86 3 rfl ?_
                refine g_cvpi (rest := []) h (r_isBack hW (nI n) μ (by first | exact hv | assumption | fail) (by assumption)) lX12_isBack mX12_348 (Nat.lt_of_lt_of_le (by decide) (Nat.le_refl _)) (by decide) sc_0 rfl rfl rfl rfl dX12_spine_87 ?_
                refine g_ifB_eq h dX12_spine_90 (fun c90 => ?_) (fun c90 => ?_)
                ·
                  refine g_iincN (b := 1) (L' := [(0, .ref (w.1 0)), (1, .int (nI (toN wt))), (2, .int (-1)), (3, .int (nI (n + 1)))]) h dX12_spine_95 3 rfl rfl (by decide) (by decide) rfl ?_
                  refine g_goto h dX12_spine_98 ?_
                  exact ih58 none (n + 1) (by simp only [sbO, hs]; first | (simp [c6, c16, c30, c66, c90]; done) | (simp [c6, c16, c30, c66, c90]; omega)) (by omega) (by first | assumption | (intro b9 e9; cases e9; omega) | fail | fail) (by omega)
                ·
                  refine g_iload_n h dX12_spine_93 3 rfl ?_
                  refine g_istore_n (L' := [(0, .ref (w.1 0)), (1, .int (nI (toN wt))), (2, .int (nI n)), (3, .int (nI n))]) h dX12_spine_94 rfl (by decide) rfl ?_
                  refine g_iincN (b := 1) (L' := [(0, .ref (w.1 0)), (1, .int (nI (toN wt))), (2, .int (nI n)), (3, .int (nI (n + 1)))]) h dX12_spine_95 3 rfl rfl (by decide) (by decide) rfl ?_
                  refine g_goto h dX12_spine_98 ?_
                  exact ih58 (some n) (n + 1) (by simp only [sbO, hs]; first | (simp [c6, c16, c30, c66, c90]; done) | (simp [c6, c16, c30, c66, c90]; omega)) (by omega) (by first | assumption | (intro b9 e9; cases e9; omega) | fail | fail) (by omega)
              ·
                have hb9 := hv2 b rfl
                show G X w 4 69 [(0, .ref (w.1 0)), (1, .int (nI (toN wt))), (2, .int (nI b)), (3, .int (nI n))] [] σ
                refine g_iload_n h dX12_spine_69 2 rfl ?_
                refine g_iconstv h dX12_spine_70 (v := (-1)) (by decide) ?_
                refine g_icmp_eq h dX12_spine_71 (fun c71 => (by exfalso; first | exact c71 rfl | exact nI_ne_m1 (by omega) c71 | exact c71 (nI_ne_m1 (by omega)) | exact nI_le_m1 (by omega) c71 | exact c71 (m1_lt (by omega)) | exact absurd c71 (by decide))) (fun c71 => ?_)
                refine g_iload_n h dX12_spine_74 3 rfl ?_
                refine g_cspi (rest := []) h (r_bitsN hW n (by omega)) lX12_bits mX12_83 (Nat.lt_of_lt_of_le (by decide) (Nat.le_refl _)) (by decide) rfl rfl rfl dX12_spine_75 ?_
                have p9_75 := pc_le (nI n)
                refine g_iload_n h dX12_spine_78 2 rfl ?_
                refine g_cspi (rest := [.int (nI (pc (nI n)))]) h (r_bitsN hW b (by omega)) lX12_bits mX12_83 (Nat.lt_of_lt_of_le (by decide) (Nat.le_refl _)) (by decide) rfl rfl rfl dX12_spine_79 ?_
                have p9_79 := pc_le (nI b)
                refine g_icmpN_ge h dX12_spine_82 (by omega) (by omega) (fun c82 => ?_) (fun c82 => ?_)
                ·
                  refine g_iincN (b := 1) (L' := [(0, .ref (w.1 0)), (1, .int (nI (toN wt))), (2, .int (nI b)), (3, .int (nI (n + 1)))]) h dX12_spine_95 3 rfl rfl (by decide) (by decide) rfl ?_
                  refine g_goto h dX12_spine_98 ?_
                  exact ih58 (some b) (n + 1) (by simp only [sbO, hs]; first | (simp [c6, c16, c30, c66, c82]; done) | (simp [c6, c16, c30, c66, c82]; omega)) (by omega) (by first | assumption | (intro b9 e9; cases e9; omega) | fail | fail) (by omega)
                ·
                  refine g_aload_n h dX12_spine_85 0 rfl ?_
                  refine g_iload_n h dX12_spine_86 3 rfl ?_
                  refine g_cvpi (rest := []) h (r_isBack hW (nI n) μ (by first | exact hv | assumption | fail) (by assumption)) lX12_isBack mX12_348 (Nat.lt_of_lt_of_le (by decide) (Nat.le_refl _)) (by decide) sc_0 rfl rfl rfl rfl dX12_spine_87 ?_
                  refine g_ifB_eq h dX12_spine_90 (fun c90 => ?_) (fun c90 => ?_)
                  ·
                    refine g_iincN (b := 1) (L' := [(0, .ref (w.1 0)), (1, .int (nI (toN wt))), (2, .int (nI b)), (3, .int (nI (n + 1)))]) h dX12_spine_95 3 rfl rfl (by decide) (by decide) rfl ?_
                    refine g_goto h dX12_spine_98 ?_
                    exact ih58 (some b) (n + 1) (by simp only [sbO, hs]; first | (simp [c6, c16, c30, c66, c82, c90]; done) | (simp [c6, c16, c30, c66, c82, c90]; omega)) (by omega) (by first | assumption | (intro b9 e9; cases e9; omega) | fail | fail) (by omega)
                  ·
                    refine g_iload_n h dX12_spine_93 3 rfl ?_
                    refine g_istore_n (L' := [(0, .ref (w.1 0)), (1, .int (nI (toN wt))), (2, .int (nI n)), (3, .int (nI n))]) h dX12_spine_94 rfl (by decide) rfl ?_
                    refine g_iincN (b := 1) (L' := [(0, .ref (w.1 0)), (1, .int (nI (toN wt))), (2, .int (nI n)), (3, .int (nI (n + 1)))]) h dX12_spine_95 3 rfl rfl (by decide) (by decide) rfl ?_
                    refine g_goto h dX12_spine_98 ?_
                    exact ih58 (some n) (n + 1) (by simp only [sbO, hs]; first | (simp [c6, c16, c30, c66, c82, c90]; done) | (simp [c6, c16, c30, c66, c82, c90]; omega)) (by omega) (by first | assumption | (intro b9 e9; cases e9; omega) | fail | fail) (by omega)
        exact lp58 (_) none 0 (by rfl) (by exact Nat.zero_le _) (by intro b e; cases e) (Nat.lt_succ_self _)
      ·
        refine g_aload_n h dX12_spine_33 0 rfl ?_
        refine g_aload_n h dX12_spine_34 0 rfl ?_
        refine g_aload_n h dX12_spine_35 0 rfl ?_
        refine g_cvpi (rest := [.ref (w.1 0), .ref (w.1 0)]) h (r_spineNow hW μ (by first | exact hv | assumption | fail) (by assumption)) lX12_spineNow mX12_345 (Nat.lt_of_lt_of_le (by decide) (Nat.le_refl _)) (by decide) sc_0 rfl rfl rfl rfl dX12_spine_36 ?_
        refine g_cvpi (rest := [.ref (w.1 0)]) h (r_isBack hW (spn μ) μ (by first | exact hv | assumption | fail) (by assumption)) lX12_isBack mX12_348 (Nat.lt_of_lt_of_le (by decide) (Nat.le_refl _)) (by decide) sc_0 rfl rfl rfl rfl dX12_spine_39 ?_
        refine g_ifB_eq h dX12_spine_42 (fun c42 => ?_) (fun c42 => ?_)
        ·
          refine g_iconst h dX12_spine_49 (by decide) ?_
          refine g_cvi (rest := []) h (r_gives hW (nI 0) ) lX12_gives mX12_281 (Nat.lt_of_lt_of_le (by decide) (Nat.le_refl _)) (by decide) sc_0 rfl rfl rfl rfl dX12_spine_50 (fun σ_2 eσ_2 => ?_)
          have eσ_2_a : σ_2 = upd σ 4000 (nI 0) := eσ_2
          have ht4000_σ_2 : σ_2 4000 = (nI 0) := by rw [eσ_2_a]; exact upd_eq
          have hcFR_σ_2 : ∀ a, ((a < 4900 ∨ 6000 ≤ a) ∧ a ≠ 4000) → σ_2 a = σ a := by intro a ha; exact Eq.trans (b := σ a) (by rw [eσ_2_a, upd_ne (by first | omega | (simp only [vb] at *; omega))]) (hcFR_σ a ha)
          have hvσ_2 : vw 0 σ_2 = μ := by rw [eσ_2_a, vw_out (by omega)]; first | exact hv | assumption
          exact g_iret h hQ dX12_spine_53 (congrArg (fun z => some (Value.int z)) (show (an (rg wt (nI 0) (nI 2)) (v_spine μ (toN wt))) = (nI 0) by first | exact an_yes (by first | rfl | (simp [fo, rg, ns, nB, ps, gst, ofS, offB, c6, c16, c30, c42]; done) | (simp [fo, rg, ns, nB, ps, gst, ofS, offB, c6, c16, c30, c42]; omega)) (by first | (unfold v_spine; rw [if_neg c16, if_neg c30, sm_o0 hI, show (2 : Nat) ^ nN μ = n from by omega, hs]; done) | (unfold v_spine; rw [if_pos c16]; done) | (unfold v_spine; rw [if_neg c16, if_pos c30, c42]; done) | (unfold v_spine; rw [if_neg c16, if_pos c30, c42]; rfl)) | exact an_no (k := 0) (by first | rfl | (simp [fo, rg, ns, nB, ps, gst, ofS, offB, c6, c16, c30, c42]; done) | (simp [fo, rg, ns, nB, ps, gst, ofS, offB, c6, c16, c30, c42]; omega)) (by first | decide | omega | assumption | exact nb1 (by assumption)) | fail)) (by exact ⟨(by first | exact tk_eq (k := 0) (by first | rfl | (simp [fo, rg, ns, nB, ps, gst, ofS, offB, c6, c16, c30, c42]; done) | (simp [fo, rg, ns, nB, ps, gst, ofS, offB, c6, c16, c30, c42]; omega)) ht4000_σ_2 | exact tk_eq (k := 0) (by first | rfl | (simp [fo, rg, ns, nB, ps, gst, ofS, offB, c6, c16, c30, c42]; done) | (simp [fo, rg, ns, nB, ps, gst, ofS, offB, c6, c16, c30, c42]; omega)) ht4000_σ_2 | fail), (by exact hcFR_σ_2)⟩)
        ·
          refine g_iconst h dX12_spine_45 (by decide) ?_
          refine g_goto h dX12_spine_46 ?_
          refine g_cvi (rest := []) h (r_gives hW (nI 1) ) lX12_gives mX12_281 (Nat.lt_of_lt_of_le (by decide) (Nat.le_refl _)) (by decide) sc_0 rfl rfl rfl rfl dX12_spine_50 (fun σ_3 eσ_3 => ?_)
          have eσ_3_a : σ_3 = upd σ 4000 (nI 0) := eσ_3
          have ht4000_σ_3 : σ_3 4000 = (nI 0) := by rw [eσ_3_a]; exact upd_eq
          have hcFR_σ_3 : ∀ a, ((a < 4900 ∨ 6000 ≤ a) ∧ a ≠ 4000) → σ_3 a = σ a := by intro a ha; exact Eq.trans (b := σ a) (by rw [eσ_3_a, upd_ne (by first | omega | (simp only [vb] at *; omega))]) (hcFR_σ a ha)
          have hvσ_3 : vw 0 σ_3 = μ := by rw [eσ_3_a, vw_out (by omega)]; first | exact hv | assumption
          exact g_iret h hQ dX12_spine_53 (congrArg (fun z => some (Value.int z)) (show (an (rg wt (nI 0) (nI 2)) (v_spine μ (toN wt))) = (nI 1) by first | exact an_yes (by first | rfl | (simp [fo, rg, ns, nB, ps, gst, ofS, offB, c6, c16, c30, c42]; done) | (simp [fo, rg, ns, nB, ps, gst, ofS, offB, c6, c16, c30, c42]; omega)) (by first | (unfold v_spine; rw [if_neg c16, if_neg c30, sm_o0 hI, show (2 : Nat) ^ nN μ = n from by omega, hs]; done) | (unfold v_spine; rw [if_pos c16]; done) | (unfold v_spine; rw [if_neg c16, if_pos c30, c42]; done) | (unfold v_spine; rw [if_neg c16, if_pos c30, c42]; rfl)) | exact an_no (k := 0) (by first | rfl | (simp [fo, rg, ns, nB, ps, gst, ofS, offB, c6, c16, c30, c42]; done) | (simp [fo, rg, ns, nB, ps, gst, ofS, offB, c6, c16, c30, c42]; omega)) (by first | decide | omega | assumption | exact nb1 (by assumption)) | fail)) (by exact ⟨(by first | exact tk_eq (k := 0) (by first | rfl | (simp [fo, rg, ns, nB, ps, gst, ofS, offB, c6, c16, c30, c42]; done) | (simp [fo, rg, ns, nB, ps, gst, ofS, offB, c6, c16, c30, c42]; omega)) ht4000_σ_3 | exact tk_eq (k := 0) (by first | rfl | (simp [fo, rg, ns, nB, ps, gst, ofS, offB, c6, c16, c30, c42]; done) | (simp [fo, rg, ns, nB, ps, gst, ofS, offB, c6, c16, c30, c42]; omega)) ht4000_σ_3 | fail), (by exact hcFR_σ_3)⟩)
    ·
      refine g_aload_n h dX12_spine_19 0 rfl ?_
      refine g_aload_n h dX12_spine_20 0 rfl ?_
      refine g_cvpi (rest := [.ref (w.1 0)]) h (r_spineNow hW μ (by first | exact hv | assumption | fail) (by assumption)) lX12_spineNow mX12_345 (Nat.lt_of_lt_of_le (by decide) (Nat.le_refl _)) (by decide) sc_0 rfl rfl rfl rfl dX12_spine_21 ?_
      refine g_cvi (rest := []) h (r_gives hW (spn μ) ) lX12_gives mX12_281 (Nat.lt_of_lt_of_le (by decide) (Nat.le_refl _)) (by decide) sc_0 rfl rfl rfl rfl dX12_spine_24 (fun σ_4 eσ_4 => ?_)
      have eσ_4_a : σ_4 = upd σ 4000 (nI 0) := eσ_4
      have ht4000_σ_4 : σ_4 4000 = (nI 0) := by rw [eσ_4_a]; exact upd_eq
      have hcFR_σ_4 : ∀ a, ((a < 4900 ∨ 6000 ≤ a) ∧ a ≠ 4000) → σ_4 a = σ a := by intro a ha; exact Eq.trans (b := σ a) (by rw [eσ_4_a, upd_ne (by first | omega | (simp only [vb] at *; omega))]) (hcFR_σ a ha)
      have hvσ_4 : vw 0 σ_4 = μ := by rw [eσ_4_a, vw_out (by omega)]; first | exact hv | assumption
      exact g_iret h hQ dX12_spine_27 (congrArg (fun z => some (Value.int z)) (show (an (rg wt (nI 0) (nI 2)) (v_spine μ (toN wt))) = (spn μ) by first | exact an_yes (by first | rfl | (simp [fo, rg, ns, nB, ps, gst, ofS, offB, c6, c16]; done) | (simp [fo, rg, ns, nB, ps, gst, ofS, offB, c6, c16]; omega)) (by first | (unfold v_spine; rw [if_neg c16, if_neg c30, sm_o0 hI, show (2 : Nat) ^ nN μ = n from by omega, hs]; done) | (unfold v_spine; rw [if_pos c16]; done) | (unfold v_spine; rw [if_neg c16, if_pos c30, c42]; done) | (unfold v_spine; rw [if_neg c16, if_pos c30, c42]; rfl)) | exact an_no (k := 0) (by first | rfl | (simp [fo, rg, ns, nB, ps, gst, ofS, offB, c6, c16]; done) | (simp [fo, rg, ns, nB, ps, gst, ofS, offB, c6, c16]; omega)) (by first | decide | omega | assumption | exact nb1 (by assumption)) | fail)) (by exact ⟨(by first | exact tk_eq (k := 0) (by first | rfl | (simp [fo, rg, ns, nB, ps, gst, ofS, offB, c6, c16]; done) | (simp [fo, rg, ns, nB, ps, gst, ofS, offB, c6, c16]; omega)) ht4000_σ_4 | exact tk_eq (k := 0) (by first | rfl | (simp [fo, rg, ns, nB, ps, gst, ofS, offB, c6, c16]; done) | (simp [fo, rg, ns, nB, ps, gst, ofS, offB, c6, c16]; omega)) ht4000_σ_4 | fail), (by exact hcFR_σ_4)⟩)
  ·
    refine g_aload_n h dX12_spine_9 0 rfl ?_
    refine g_iconst h dX12_spine_10 (by decide) ?_
    refine g_cvi (rest := []) h (r_refuse hW (nI 1) ) lX12_refuse mX12_272 (Nat.lt_of_lt_of_le (by decide) (Nat.le_refl _)) (by decide) sc_0 rfl rfl rfl rfl dX12_spine_11 (fun σ_5 eσ_5 => ?_)
    have eσ_5_a : σ_5 = upd σ 4000 (nI 1) := eσ_5
    have ht4000_σ_5 : σ_5 4000 = (nI 1) := by rw [eσ_5_a]; exact upd_eq
    have hcFR_σ_5 : ∀ a, ((a < 4900 ∨ 6000 ≤ a) ∧ a ≠ 4000) → σ_5 a = σ a := by intro a ha; exact Eq.trans (b := σ a) (by rw [eσ_5_a, upd_ne (by first | omega | (simp only [vb] at *; omega))]) (hcFR_σ a ha)
    have hvσ_5 : vw 0 σ_5 = μ := by rw [eσ_5_a, vw_out (by omega)]; first | exact hv | assumption
    exact g_iret h hQ dX12_spine_14 (congrArg (fun z => some (Value.int z)) (show (an (rg wt (nI 0) (nI 2)) (v_spine μ (toN wt))) = (-1) by first | exact an_yes (by first | rfl | (simp [fo, rg, ns, nB, ps, gst, ofS, offB, c6]; done) | (simp [fo, rg, ns, nB, ps, gst, ofS, offB, c6]; omega)) (by first | (unfold v_spine; rw [if_neg c16, if_neg c30, sm_o0 hI, show (2 : Nat) ^ nN μ = n from by omega, hs]; done) | (unfold v_spine; rw [if_pos c16]; done) | (unfold v_spine; rw [if_neg c16, if_pos c30, c42]; done) | (unfold v_spine; rw [if_neg c16, if_pos c30, c42]; rfl)) | exact an_no (k := 1) (by first | rfl | (simp [fo, rg, ns, nB, ps, gst, ofS, offB, c6]; done) | (simp [fo, rg, ns, nB, ps, gst, ofS, offB, c6]; omega)) (by first | decide | omega | assumption | exact nb1 (by assumption)) | fail)) (by exact ⟨(by first | exact tk_eq (k := 1) (by first | rfl | (simp [fo, rg, ns, nB, ps, gst, ofS, offB, c6]; done) | (simp [fo, rg, ns, nB, ps, gst, ofS, offB, c6]; omega)) ht4000_σ_5 | exact tk_eq (k := 1) (by first | rfl | (simp [fo, rg, ns, nB, ps, gst, ofS, offB, c6]; done) | (simp [fo, rg, ns, nB, ps, gst, ofS, offB, c6]; omega)) ht4000_σ_5 | fail), (by exact hcFR_σ_5)⟩)

set_option maxRecDepth 100000 in
set_option maxHeartbeats 4000000 in
theorem p_spine {l : Launch} {w : Wd} (hW : Wi w) {σ : Mem} (wt : Int32)  (μ : Nat → Int32) (hv : vw (vb 0) σ = μ) (hI : MI μ) : MC l w qX11_spine 6 [.ref (w.1 12), .int wt] σ (some (.int (an (rg wt (nI 0) (nI 2)) (v_spine μ (toN wt))))) (fun σ' => (σ' 14000 = (nI (rg wt (nI 0) (nI 2)))) ∧ (∀ a, (a < 14900 ∧ a ≠ 14000) → σ' a = σ a)) := by
  refine MC.of hW (by decide +kernel) (Nat.le_of_ble_eq_true rfl) (fun X h hQ hnm => ?_)
  have h : Fx X w cX11_spine 2 RX11 6 := h
  have hQ : Qx X w (some .int) (some (.int (an (rg wt (nI 0) (nI 2)) (v_spine μ (toN wt))))) (fun σ' => (σ' 14000 = (nI (rg wt (nI 0) (nI 2)))) ∧ (∀ a, (a < 14900 ∧ a ≠ 14000) → σ' a = σ a)) := hQ
  have hN8 := mi_8 hI
  have hcFR_σ : ∀ a, (a < 14900 ∧ a ≠ 14000) → σ a = σ a := fun _ _ => rfl
  show G X w 2 0 [(0, .ref (w.1 12)), (1, .int wt)] [] σ
  refine g_aload_n h dX11_spine_0 0 rfl ?_
  refine g_iload_n h dX11_spine_1 1 rfl ?_
  refine g_iconst h dX11_spine_2 (by decide) ?_
  refine g_iconst h dX11_spine_3 (by decide) ?_
  refine g_cspi (rest := [.ref (w.1 12)]) h (c_rg hW wt (nI 0) (nI 2) ) lX11_rangeStatus mX11_102 (Nat.lt_of_lt_of_le (by decide) (Nat.le_refl _)) (by decide) rfl rfl rfl dX11_spine_4 ?_
  refine g_cvi (rest := []) h (c_fails hW (rg wt (nI 0) (nI 2)) (by repeat (first | omega | exact rg_lt | exact ns_lt | exact ps_lt | exact gst_lt | exact ofS_lt | exact if_lt (by decide) (by decide) | apply fo_lt))) lX11_fails mX11_106 (Nat.lt_of_lt_of_le (by decide) (Nat.le_refl _)) (by decide) sc_12 rfl rfl rfl rfl dX11_spine_7 (fun σ_1 eσ_1 => ?_)
  obtain ⟨eσ_1_a, eσ_1_b⟩ := eσ_1
  have eσ_1_a : σ_1 14000 = (nI (rg wt (nI 0) (nI 2))) := eσ_1_a
  have eσ_1_b : ∀ a, (a ≠ 14000) → σ_1 a = σ a := eσ_1_b
  have ht14000_σ_1 : σ_1 14000 = (nI (rg wt (nI 0) (nI 2))) := eσ_1_a
  have hcFR_σ_1 : ∀ a, (a < 14900 ∧ a ≠ 14000) → σ_1 a = σ a := by intro a ha; exact Eq.trans (b := σ a) (eσ_1_b a (by first | omega | (simp only [vb] at *; omega))) (hcFR_σ a ha)
  have hvσ_1 : vw (vb 0) σ_1 = μ := by rw [vw_fr (σ := σ) (fun j _ _ => eσ_1_b _ (by first | omega | (simp only [vb] at *; omega)))]; first | exact hv | assumption
  refine g_ifB_eq h dX11_spine_10 (fun c10 => ?_) (fun c10 => ?_)
  ·
    have hS0 := nb0 c10
    obtain ⟨ew, hw9⟩ := rg_N (by decide) hS0
    rw [ew]
    show G X w 2 15 [(0, .ref (w.1 12)), (1, .int (nI (toN wt)))] [] σ_1
    refine g_aload_n h dX11_spine_15 0 rfl ?_
    refine g_getr h dX11_spine_16 gX11_65 sc_12 rfl ?_
    refine g_aload_n h dX11_spine_19 0 rfl ?_
    refine g_getr h dX11_spine_20 gX11_23 sc_12 rfl ?_
    refine g_cvv (rest := []) h (c_see hW 0 μ (by first | omega | decide | fail) (by first | exact hvσ_1 | assumption | fail) (by assumption)) lX10_see mX11_305 (Nat.lt_of_lt_of_le (by decide) (Nat.le_refl _)) (by decide) sc_25 rfl rfl rfl rfl dX11_spine_23 (fun σ_2 eσ_2 => ?_)
    obtain ⟨eσ_2_a, eσ_2_b⟩ := eσ_2
    have eσ_2_a : TR σ_2 μ := eσ_2_a
    have eσ_2_b : ∀ a, (a ≠ 15030 ∧ (a < 15180 ∨ 15188 ≤ a) ∧ (a < 15330 ∨ 15394 ≤ a)) → σ_2 a = σ_1 a := eσ_2_b
    have ht14000_σ_2 : σ_2 14000 = (nI (rg wt (nI 0) (nI 2))) := by rw [eσ_2_b _ (by first | omega | (simp only [vb] at *; omega))]; first | exact ht14000_σ_1 | assumption
    have hcFR_σ_2 : ∀ a, (a < 14900 ∧ a ≠ 14000) → σ_2 a = σ a := by intro a ha; exact Eq.trans (b := σ_1 a) (eσ_2_b a (by first | omega | (simp only [vb] at *; omega))) (hcFR_σ_1 a ha)
    have hcTR_σ_2 : TR σ_2 μ := eσ_2_a
    have hvσ_2 : vw (vb 0) σ_2 = μ := by rw [vw_fr (σ := σ_1) (fun j _ _ => eσ_2_b _ (by first | omega | (simp only [vb] at *; omega)))]; first | exact hvσ_1 | assumption
    refine g_iload_n h dX11_spine_26 1 rfl ?_
    rcases (show toN wt = 0 ∨ toN wt = 1 ∨ toN wt = 2 by omega) with hc27 | hc27 | hc27
    ·
      refine g_lsw (off := 25) (tgt := 52) h dX11_spine_27 (by decide) (by rw [hc27]; decide) (by decide) ?_
      refine g_aload_n h dX11_spine_52 0 rfl ?_
      refine g_cvpi (rest := []) h (c_relaysOfAll hW μ (by first | exact hvσ_2 | assumption | fail) (by assumption)) lX11_relaysOfAll mX11_337 (Nat.lt_of_lt_of_le (by decide) (Nat.le_refl _)) (by decide) sc_12 rfl rfl rfl rfl dX11_spine_53 ?_
      exact g_iret h hQ dX11_spine_56 (congrArg (fun z => some (Value.int z)) (show (an (rg wt (nI 0) (nI 2)) (v_spine μ (toN wt))) = (spn μ) by first | exact an_yes (by exact hS0) (by first | (simp only [v_spine, c10, hc27]; done) | (simp [v_spine, c10, hc27]; done)) | exact an_no (k := (rg wt (nI 0) (nI 2))) (by first | rfl | (simp [fo, rg, ns, nB, ps, gst, ofS, offB, c10, hc27]; done) | (simp [fo, rg, ns, nB, ps, gst, ofS, offB, c10, hc27]; omega)) (by first | decide | omega | assumption | exact nb1 (by assumption)) | fail)) (by exact ⟨(by first | exact tk_eq (k := (rg wt (nI 0) (nI 2))) (by first | rfl | (simp [fo, rg, ns, nB, ps, gst, ofS, offB, c10, hc27]; done) | (simp [fo, rg, ns, nB, ps, gst, ofS, offB, c10, hc27]; omega)) ht14000_σ_2 | exact tk_eq (k := (rg wt (nI 0) (nI 2))) (by exact hS0) ht14000_σ_2 | fail), (by exact hcFR_σ_2)⟩)
    ·
      refine g_lsw (off := 30) (tgt := 57) h dX11_spine_27 (by decide) (by rw [hc27]; decide) (by decide) ?_
      refine g_aload_n h dX11_spine_57 0 rfl ?_
      refine g_getr h dX11_spine_58 gX11_65 sc_12 rfl ?_
      refine g_aload_n h dX11_spine_61 0 rfl ?_
      refine g_cvpi (rest := [.ref (w.1 25)]) h (c_relaysOfAll hW μ (by first | exact hvσ_2 | assumption | fail) (by assumption)) lX11_relaysOfAll mX11_337 (Nat.lt_of_lt_of_le (by decide) (Nat.le_refl _)) (by decide) sc_12 rfl rfl rfl rfl dX11_spine_62 ?_
      refine g_cvpi (rest := []) h (c_isBack hW (spn μ) μ (by first | exact hcTR_σ_2 | assumption | fail)) lX10_isBack mX11_340 (Nat.lt_of_lt_of_le (by decide) (Nat.le_refl _)) (by decide) sc_25 rfl rfl rfl rfl dX11_spine_65 ?_
      refine g_cspi (rest := []) h (c_asN hW (bkB μ (spn μ)) ) lX11_asNumber mX11_170 (Nat.lt_of_lt_of_le (by decide) (Nat.le_refl _)) (by decide) rfl rfl rfl dX11_spine_68 ?_
      exact g_iret h hQ dX11_spine_71 (congrArg (fun z => some (Value.int z)) (show (an (rg wt (nI 0) (nI 2)) (v_spine μ (toN wt))) = (b2i (bkB μ (spn μ))) by first | exact an_yes (by exact hS0) (by first | (simp only [v_spine, c10, hc27]; done) | (simp [v_spine, c10, hc27]; done)) | exact an_no (k := (rg wt (nI 0) (nI 2))) (by first | rfl | (simp [fo, rg, ns, nB, ps, gst, ofS, offB, c10, hc27]; done) | (simp [fo, rg, ns, nB, ps, gst, ofS, offB, c10, hc27]; omega)) (by first | decide | omega | assumption | exact nb1 (by assumption)) | fail)) (by exact ⟨(by first | exact tk_eq (k := (rg wt (nI 0) (nI 2))) (by first | rfl | (simp [fo, rg, ns, nB, ps, gst, ofS, offB, c10, hc27]; done) | (simp [fo, rg, ns, nB, ps, gst, ofS, offB, c10, hc27]; omega)) ht14000_σ_2 | exact tk_eq (k := (rg wt (nI 0) (nI 2))) (by exact hS0) ht14000_σ_2 | fail), (by exact hcFR_σ_2)⟩)
    ·
      refine g_lsw (off := 45) (tgt := 72) h dX11_spine_27 (by decide) (by rw [hc27]; decide) (by decide) ?_
      refine g_aload_n h dX11_spine_72 0 rfl ?_
      refine g_getr h dX11_spine_73 gX11_65 sc_12 rfl ?_
      refine g_cvpi (rest := []) h (c_smallestBack hW μ (by first | exact hcTR_σ_2 | assumption | fail)) lX10_smallestBack mX11_343 (Nat.lt_of_lt_of_le (by decide) (Nat.le_refl _)) (by decide) sc_25 rfl rfl rfl rfl dX11_spine_76 ?_
      exact g_iret h hQ dX11_spine_79 (congrArg (fun z => some (Value.int z)) (show (an (rg wt (nI 0) (nI 2)) (v_spine μ (toN wt))) = (nI ((smB μ 256).1)) by first | exact an_yes (by exact hS0) (by first | (simp only [v_spine, c10, hc27]; done) | (simp [v_spine, c10, hc27]; done)) | exact an_no (k := (rg wt (nI 0) (nI 2))) (by first | rfl | (simp [fo, rg, ns, nB, ps, gst, ofS, offB, c10, hc27]; done) | (simp [fo, rg, ns, nB, ps, gst, ofS, offB, c10, hc27]; omega)) (by first | decide | omega | assumption | exact nb1 (by assumption)) | fail)) (by exact ⟨(by first | exact tk_eq (k := (rg wt (nI 0) (nI 2))) (by first | rfl | (simp [fo, rg, ns, nB, ps, gst, ofS, offB, c10, hc27]; done) | (simp [fo, rg, ns, nB, ps, gst, ofS, offB, c10, hc27]; omega)) ht14000_σ_2 | exact tk_eq (k := (rg wt (nI 0) (nI 2))) (by exact hS0) ht14000_σ_2 | fail), (by exact hcFR_σ_2)⟩)
  ·
    refine g_iconstv h dX11_spine_13 (v := (-1)) (by decide) ?_
    exact g_iret h hQ dX11_spine_14 (congrArg (fun z => some (Value.int z)) (show (an (rg wt (nI 0) (nI 2)) (v_spine μ (toN wt))) = (-1) by first | exact an_yes (by exact hS0) (by first | (simp only [v_spine, c10]; done) | (simp [v_spine, c10]; done)) | exact an_no (k := (rg wt (nI 0) (nI 2))) (by first | rfl | (simp [fo, rg, ns, nB, ps, gst, ofS, offB, c10]; done) | (simp [fo, rg, ns, nB, ps, gst, ofS, offB, c10]; omega)) (by first | decide | omega | assumption | exact nb1 (by assumption)) | fail)) (by exact ⟨(by first | exact tk_eq (k := (rg wt (nI 0) (nI 2))) (by first | rfl | (simp [fo, rg, ns, nB, ps, gst, ofS, offB, c10]; done) | (simp [fo, rg, ns, nB, ps, gst, ofS, offB, c10]; omega)) ht14000_σ_1 | exact tk_eq (k := (rg wt (nI 0) (nI 2))) (by exact hS0) ht14000_σ_1 | fail), (by exact hcFR_σ_1)⟩)
