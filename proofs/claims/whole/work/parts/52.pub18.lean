/-! who is cut: reaching goes both ways -/
theorem rch_s {μ : Nat → Int32} {st : Int32} {f q n : Nat} (hI : MI μ) : tb (rch μ st f (n + 1)) q = true ↔ tb (rch μ st f n) q = true ∨ (tb st q = true ∧ ∃ a, tb (rch μ st f n) a = true ∧ prB μ a q = true) := by
  show tb (rch μ st f n ||| (prO μ (rch μ st f n) &&& st)) q = true ↔ _
  rw [tb_or, tb_and, Bool.or_eq_true, Bool.and_eq_true, tb_prO hI]
  exact ⟨fun h => h.elim Or.inl (fun ⟨h1, h2⟩ => Or.inr ⟨h2, h1⟩), fun h => h.elim Or.inl (fun ⟨h1, h2⟩ => Or.inr ⟨h2, h1⟩)⟩
theorem rch_ff {μ : Nat → Int32} {st : Int32} {f : Nat} (hf : f < 32) : ∀ n, tb (rch μ st f n) f = true := fun n => by
  have := rch_mono (μ := μ) (st := st) (f := f) (q := f) (n := 0) n (by show tb (bt1 f) f = true; rw [tb_bt1 hf]; exact decide_eq_true rfl)
  rwa [Nat.zero_add] at this
theorem rch_front {μ : Nat → Int32} {st : Int32} {a c : Nat} (hI : MI μ) (ha : a < 32) (hc : c < 32) (hs : tb st c = true) (hp : prB μ a c = true) : ∀ n b, tb (rch μ st c n) b = true → tb (rch μ st a (n + 1)) b = true
  | 0, b, h => by
    have h : tb (bt1 c) b = true := h
    rw [tb_bt1 hc] at h
    rw [of_decide_eq_true h]
    exact (rch_s hI).mpr (Or.inr ⟨hs, a, rch_ff ha 0, hp⟩)
  | n + 1, b, h => by
    rcases (rch_s hI).mp h with h | ⟨h1, q, h2, h3⟩
    · exact rch_mono 1 (rch_front hI ha hc hs hp n b h)
    · exact (rch_s hI).mpr (Or.inr ⟨h1, q, rch_front hI ha hc hs hp n q h2, h3⟩)
theorem rch_sym {μ : Nat → Int32} {st : Int32} {a : Nat} (hI : MI μ) (ha : a < 32) (hs : tb st a = true) : ∀ n b, tb (rch μ st a n) b = true → tb (rch μ st b n) a = true
  | 0, b, h => by
    have h : tb (bt1 a) b = true := h
    rw [tb_bt1 ha] at h
    rw [of_decide_eq_true h]
    exact rch_ff ha 0
  | n + 1, b, h => by
    rcases (rch_s hI).mp h with h | ⟨h1, q, h2, h3⟩
    · exact rch_mono 1 (rch_sym hI ha hs n b h)
    · have hb : b < 32 := Nat.lt_of_not_le fun q9 => by rw [tb_big q9] at h1; cases h1
      have hq : tb st q = true := (rch_on ha n h2).elim (fun e => by rw [e]; exact hs) id
      have hq9 : q < 32 := Nat.lt_of_not_le fun q9 => by rw [tb_big q9] at hq; cases hq
      exact rch_front hI hb hq9 hq (by rw [prB_sym]; exact h3) n a (rch_sym hI ha hs n q h2)
theorem rch_less {μ : Nat → Int32} {st st2 : Int32} {a : Nat} (hI : MI μ) (h : ∀ q, tb st2 q = true → tb st q = true) : ∀ n q, tb (rch μ st2 a n) q = true → tb (rch μ st a n) q = true
  | 0, _, hq => hq
  | n + 1, q, hq => by
    rcases (rch_s hI).mp hq with hq | ⟨h1, c, h2, h3⟩
    · exact rch_mono 1 (rch_less hI h n q hq)
    · exact (rch_s hI).mpr (Or.inr ⟨h q h1, c, rch_less hI h n c h2, h3⟩)
def ct2 (μ : Nat → Int32) (k a b : Nat) : Bool := !decide (a = k) && !decide (b = k) && (tb (μ 1) a && tb (μ 1) b) && !decide (far μ a b = 0) && decide (fB μ (wth (μ 1) k false) a b = 0)
def v_ct (μ : Nat → Int32) (k : Nat) : Bool := anyB (fun a => anyB (ct2 μ k a) a) (nN μ)
theorem ct2_iff {μ : Nat → Int32} {k a b : Nat} (ha : a < 32) (hne : b ≠ a) : ct2 μ k a b = true ↔ a ≠ k ∧ b ≠ k ∧ tb (μ 1) a = true ∧ tb (μ 1) b = true ∧ tb (rch μ (μ 1) a 7) b = true ∧ tb (rch μ (wth (μ 1) k false) a 7) b = false := by
  have h1 := fB_pos (μ := μ) (st := μ 1) ha hne
  have h2 := fB_pos (μ := μ) (st := wth (μ 1) k false) ha hne
  unfold ct2 far
  simp only [Bool.and_eq_true, Bool.not_eq_true', decide_eq_true_eq, decide_eq_false_iff_not, h1, h2, Bool.not_eq_false]
  exact ⟨fun ⟨⟨⟨⟨a, b⟩, c, d⟩, e⟩, f⟩ => ⟨a, b, c, d, e, f⟩, fun ⟨a, b, c, d, e, f⟩ => ⟨⟨⟨⟨a, b⟩, c, d⟩, e⟩, f⟩⟩
theorem on_n {μ : Nat → Int32} {a : Nat} (hI : MI μ) (h : tb (μ 1) a = true) : a < nN μ := Nat.lt_of_not_le fun q => by
  rw [ms_on hI a q] at h
  cases h
theorem ct_two {μ : Nat → Int32} {k a b : Nat} (hI : MI μ) (hk : k < 8) (hne : b ≠ a) (h1 : a ≠ k) (h2 : b ≠ k) (h3 : tb (μ 1) a = true) (h4 : tb (μ 1) b = true) (h5 : tb (rch μ (μ 1) a 7) b = true) (h6 : tb (rch μ (wth (μ 1) k false) a 7) b = false) : v_ct μ k = true := by
  have h8 := mi_8 hI
  have ha := on_n hI h3
  have hb := on_n hI h4
  by_cases c : b < a
  · exact anyB_iff.mpr ⟨a, ha, anyB_iff.mpr ⟨b, c, (ct2_iff (by omega) hne).mpr ⟨h1, h2, h3, h4, h5, h6⟩⟩⟩
  · refine anyB_iff.mpr ⟨b, hb, anyB_iff.mpr ⟨a, by omega, (ct2_iff (by omega) (fun e => hne e.symm)).mpr ⟨h2, h1, h4, h3, rch_sym hI (by omega) h3 7 b h5, ?_⟩⟩⟩
    cases q : tb (rch μ (wth (μ 1) k false) b 7) a with
    | false => rfl
    | true =>
      have hs : tb (wth (μ 1) k false) b = true := by rw [tb_wth (by omega) (by omega), if_neg h2]; exact h4
      rw [rch_sym hI (by omega) hs 7 a q] at h6
      cases h6
theorem cut_2 {μ : Nat → Int32} {k : Nat} (hI : MI μ) (hk : k < 8) : v_ct μ k = cut μ k := by
  have h8 := mi_8 hI
  have hsub : ∀ q, tb (wth (μ 1) k false) q = true → tb (μ 1) q = true ∧ q ≠ k := fun q hq => by
    have q9 : q < 32 := Nat.lt_of_not_le fun q9 => by rw [tb_big q9] at hq; cases hq
    rw [tb_wth (by omega) q9] at hq
    by_cases e : q = k
    · rw [if_pos e] at hq; cases hq
    · rw [if_neg e] at hq; exact ⟨hq, e⟩
  rw [Bool.eq_iff_iff]
  constructor
  · intro h
    obtain ⟨a, ha, h⟩ := anyB_iff.mp h
    obtain ⟨b, hb, h⟩ := anyB_iff.mp h
    obtain ⟨h1, h2, h3, h4, h5, h6⟩ := (ct2_iff (by omega) (by omega)).mp h
    refine anyB_iff.mpr ⟨a, by omega, ?_⟩
    unfold ctB
    rw [tb_wth (by omega) (by omega), if_neg h1, h3, Bool.true_and, decide_eq_false (fun e => ?_)]
    · rfl
    · have e := congrArg (fun s => tb s b) e
      rw [tb_wth (by omega) (by omega), if_neg h2, h5, h6] at e
      cases e
  · intro h
    obtain ⟨a, ha, h⟩ := anyB_iff.mp h
    unfold ctB at h
    rw [Bool.and_eq_true] at h
    obtain ⟨h3, h1⟩ := hsub a h.1
    have hd : ¬ wth (rch μ (μ 1) a 7) k false = rch μ (wth (μ 1) k false) a 7 := fun e => by
      have := h.2
      rw [decide_eq_true e] at this
      cases this
    refine Classical.byContradiction fun hn => hd (s_ext fun b hb => ?_)
    rw [tb_wth (by omega) hb]
    by_cases e : b = k
    · rw [if_pos e]
      cases q : tb (rch μ (wth (μ 1) k false) a 7) b with
      | false => rfl
      | true =>
        rcases rch_on (by omega) 7 q with q | q
        · exact absurd (q.symm.trans e) h1
        · exact absurd e (hsub b q).2
    · rw [if_neg e]
      cases q : tb (rch μ (wth (μ 1) k false) a 7) b with
      | true => exact rch_less hI (fun q hq => (hsub q hq).1) 7 b q
      | false =>
        cases q2 : tb (rch μ (μ 1) a 7) b with
        | false => rfl
        | true =>
          exfalso
          have hne : b ≠ a := fun e => by
            rw [e, rch_ff (by omega)] at q
            cases q
          exact hn (ct_two hI hk hne h1 e h3 ((rch_on (by omega) 7 q2).elim (fun e => absurd e hne) id) q2 q)

def ctF (μ : Nat → Int32) (k : Nat) : Bool := tb (μ 1) k && cut μ k

set_option maxRecDepth 100000 in
set_option maxHeartbeats 4000000 in
theorem p_cuts {l : Launch} {w : Wd} (hW : Wi w) {σ : Mem} (μ : Nat → Int32) (hv : vw (vb 0) σ = μ) (hI : MI μ) : MC l w qX11_cuts 4 [.ref (w.1 12)] σ (some (.int (an (0) (mkS (ctF μ) (nN μ))))) (fun σ' => (σ' 14000 = (nI 0)) ∧ (∀ a, (a < 14900 ∧ a ≠ 14000) → σ' a = σ a)) := by
  refine MC.of hW (by decide +kernel) (Nat.le_of_ble_eq_true rfl) (fun X h hQ hnm => ?_)
  have h : Fx X w cX11_cuts 3 RX11 4 := h
  have hQ : Qx X w (some .int) (some (.int (an (0) (mkS (ctF μ) (nN μ))))) (fun σ' => (σ' 14000 = (nI 0)) ∧ (∀ a, (a < 14900 ∧ a ≠ 14000) → σ' a = σ a)) := hQ
  have hN8 := mi_8 hI
  have hcFR_σ : ∀ a, (a < 14900 ∧ a ≠ 14000) → σ a = σ a := fun _ _ => rfl
  show G X w 3 0 [(0, .ref (w.1 12))] [] σ
  refine g_aload_n h dX11_cuts_0 0 rfl ?_
  refine g_iconst h dX11_cuts_1 (by decide) ?_
  refine g_puti h dX11_cuts_2 pX11_92 sc_12 rfl ?_
  refine g_nm (fun σ_1 eσ_1 => ?_)
  have eσ_1 : σ_1 = upd σ 14000 (nI 0) := eσ_1
  have ht14000_σ_1 : σ_1 14000 = (nI 0) := by rw [eσ_1]; exact upd_eq
  have hcFR_σ_1 : ∀ a, (a < 14900 ∧ a ≠ 14000) → σ_1 a = σ a := by intro a ha; exact Eq.trans (b := σ a) (by rw [eσ_1, upd_ne (by first | omega | (simp only [vb] at *; omega))]) (hcFR_σ a ha)
  have hvσ_1 : vw (vb 0) σ_1 = μ := by rw [eσ_1, vw_out (by first | omega | (simp only [vb] at *; omega))]; first | exact hv | assumption
  refine g_aload_n h dX11_cuts_5 0 rfl ?_
  refine g_getr h dX11_cuts_6 gX11_65 sc_12 rfl ?_
  refine g_aload_n h dX11_cuts_9 0 rfl ?_
  refine g_getr h dX11_cuts_10 gX11_23 sc_12 rfl ?_
  refine g_cvv (rest := []) h (c_see hW 0 μ (by first | omega | decide | fail) (by first | exact hvσ_1 | assumption | fail) (by assumption)) lX10_see mX11_305 (Nat.lt_of_lt_of_le (by decide) (Nat.le_refl _)) (by decide) sc_25 rfl rfl rfl rfl dX11_cuts_13 (fun σ_2 eσ_2 => ?_)
  obtain ⟨eσ_2_a, eσ_2_b⟩ := eσ_2
  have eσ_2_a : TR σ_2 μ := eσ_2_a
  have eσ_2_b : ∀ a, (a ≠ 15030 ∧ (a < 15180 ∨ 15188 ≤ a) ∧ (a < 15330 ∨ 15394 ≤ a)) → σ_2 a = σ_1 a := eσ_2_b
  have ht14000_σ_2 : σ_2 14000 = (nI 0) := by rw [eσ_2_b _ (by first | omega | (simp only [vb] at *; omega))]; first | exact ht14000_σ_1 | assumption
  have hcFR_σ_2 : ∀ a, (a < 14900 ∧ a ≠ 14000) → σ_2 a = σ a := by intro a ha; exact Eq.trans (b := σ_1 a) (eσ_2_b a (by first | omega | (simp only [vb] at *; omega))) (hcFR_σ_1 a ha)
  have hcTR_σ_2 : TR σ_2 μ := eσ_2_a
  have hvσ_2 : vw (vb 0) σ_2 = μ := by rw [vw_fr (σ := σ_1) (fun j _ _ => eσ_2_b _ (by first | omega | (simp only [vb] at *; omega)))]; first | exact hvσ_1 | assumption
  refine g_iconst h dX11_cuts_16 (by decide) ?_
  refine g_istore_n (L' := [(0, .ref (w.1 12)), (1, .int (nI 0))]) h dX11_cuts_17 rfl (by decide) rfl ?_
  refine g_iconst h dX11_cuts_18 (by decide) ?_
  refine g_istore_n (L' := [(0, .ref (w.1 12)), (1, .int (nI 0)), (2, .int (nI 0))]) h dX11_cuts_19 rfl (by decide) rfl ?_
  have lp20 : ∀ (k9 : Nat) (s : Int32) (k : Nat) (τ : Mem), (k ≤ nN μ) → (s = mkS (ctF μ) k) → (vw (vb 0) τ = μ) → (τ 14000 = (nI 0)) → (∀ a, (a < 14900 ∧ a ≠ 14000) → τ a = σ a) → (TR τ μ) → nN μ - k < k9 → G X w 3 20 [(0, .ref (w.1 12)), (1, .int s), (2, .int (nI k))] [] (τ) := by
    intro k9
    induction k9 with
    | zero => intro s k τ hk hs hvτ ht14000_τ hcFR_τ hcTR_τ hm9; exact absurd hm9 (Nat.not_lt_zero _)
    | succ k9 ih20 =>
      intro s k τ hk hs hvτ ht14000_τ hcFR_τ hcTR_τ hm20
      refine g_iload_n h dX11_cuts_20 2 rfl ?_
      refine g_aload_n h dX11_cuts_21 0 rfl ?_
      refine g_getr h dX11_cuts_22 gX11_23 sc_12 rfl ?_
      refine g_geti h dX11_cuts_25 gX11_120 (sM_0 (m := 0) (by decide)) rfl ?_
      refine g_top (y := μ 0) (vw_pic (b := (vb 0)) (k := 0) (by first | exact hvτ | assumption) (by omega)) ?_
      refine g_top (y := nI (nN μ)) (mi_0 (by assumption)) ?_
      refine g_icmpN_ge h dX11_cuts_28 (by omega) (by omega) (fun c28 => ?_) (fun c28 => ?_)
      ·
        refine g_iload_n h dX11_cuts_70 1 rfl ?_
        exact g_iret h hQ dX11_cuts_71 (congrArg (fun z => some (Value.int z)) (show (an (0) (mkS (ctF μ) (nN μ))) = s by first | exact an_yes (by rfl) (by rw [hs, show k = nN μ from by omega]) | exact an_no (k := 0) (by rfl) (by first | decide | omega | assumption | exact nb1 (by assumption)) | fail)) (by exact ⟨(by first | exact tk_eq (k := 0) (by rfl) ht14000_τ | exact tk_eq (k := 0) (by rfl) ht14000_τ | fail), (by exact hcFR_τ)⟩)
      ·
        refine g_iload_n h dX11_cuts_31 1 rfl ?_
        refine g_iload_n h dX11_cuts_32 2 rfl ?_
        refine g_aload_n h dX11_cuts_33 0 rfl ?_
        refine g_getr h dX11_cuts_34 gX11_23 sc_12 rfl ?_
        refine g_iload_n h dX11_cuts_37 2 rfl ?_
        refine g_cvpi (rest := [.int (nI k), .int s]) h (c_isOnN hW k 0 μ (by first | omega | decide | fail) (by first | exact hvτ | assumption | fail) (by assumption) (by omega)) lX5_isOn mX11_167 (Nat.lt_of_lt_of_le (by decide) (Nat.le_refl _)) (by decide) (sM_0 (m := 0) (by decide)) rfl rfl rfl rfl dX11_cuts_38 ?_
        refine g_ifB_eq h dX11_cuts_41 (fun c41 => ?_) (fun c41 => ?_)
        ·
          refine g_iconst h dX11_cuts_59 (by decide) ?_
          refine g_cspi (rest := []) h (c_with hW s k false ) lX5_with mX11_279 (Nat.lt_of_lt_of_le (by decide) (Nat.le_refl _)) (by decide) rfl rfl rfl dX11_cuts_60 ?_
          refine g_istore_n (L' := [(0, .ref (w.1 12)), (1, .int (wth s k false)), (2, .int (nI k))]) h dX11_cuts_63 rfl (by decide) rfl ?_
          refine g_iincN (b := 1) (L' := [(0, .ref (w.1 12)), (1, .int (wth s k false)), (2, .int (nI (k + 1)))]) h dX11_cuts_64 2 rfl rfl (by decide) (by decide) rfl ?_
          refine g_goto h dX11_cuts_67 ?_
          exact ih20 (wth s k false) (k + 1) (τ) (by omega) (by rw [hs]; first | exact mkS_w (by omega) (by unfold ctF; rw [off_of hI c41]; rfl) | exact mkS_w (by omega) (by unfold ctF; rw [(on_of c41).2, c52]; rfl) | fail) (by first | exact hvτ | assumption | fail | fail) (by first | exact ht14000_τ | assumption | fail | fail) (by first | exact hcFR_τ | assumption | fail | fail) (by first | exact hcTR_τ | assumption | fail | fail) (by omega)
        ·
          refine g_aload_n h dX11_cuts_44 0 rfl ?_
          refine g_getr h dX11_cuts_45 gX11_65 sc_12 rfl ?_
          refine g_iload_n h dX11_cuts_48 2 rfl ?_
          refine g_cvpi (rest := [.int (nI k), .int s]) h (c_isCut hW k μ (by omega) (by first | exact hcTR_τ | assumption | fail)) lX10_isCut mX11_346 (Nat.lt_of_lt_of_le (by decide) (Nat.le_refl _)) (by decide) sc_25 rfl rfl rfl rfl dX11_cuts_49 ?_
          refine g_ifB_eq h dX11_cuts_52 (fun c52 => ?_) (fun c52 => ?_)
          ·
            refine g_iconst h dX11_cuts_59 (by decide) ?_
            refine g_cspi (rest := []) h (c_with hW s k false ) lX5_with mX11_279 (Nat.lt_of_lt_of_le (by decide) (Nat.le_refl _)) (by decide) rfl rfl rfl dX11_cuts_60 ?_
            refine g_istore_n (L' := [(0, .ref (w.1 12)), (1, .int (wth s k false)), (2, .int (nI k))]) h dX11_cuts_63 rfl (by decide) rfl ?_
            refine g_iincN (b := 1) (L' := [(0, .ref (w.1 12)), (1, .int (wth s k false)), (2, .int (nI (k + 1)))]) h dX11_cuts_64 2 rfl rfl (by decide) (by decide) rfl ?_
            refine g_goto h dX11_cuts_67 ?_
            exact ih20 (wth s k false) (k + 1) (τ) (by omega) (by rw [hs]; first | exact mkS_w (by omega) (by unfold ctF; rw [off_of hI c41]; rfl) | exact mkS_w (by omega) (by unfold ctF; rw [(on_of c41).2, c52]; rfl) | fail) (by first | exact hvτ | assumption | fail | fail) (by first | exact ht14000_τ | assumption | fail | fail) (by first | exact hcFR_τ | assumption | fail | fail) (by first | exact hcTR_τ | assumption | fail | fail) (by omega)
          ·
            refine g_iconst h dX11_cuts_55 (by decide) ?_
            refine g_goto h dX11_cuts_56 ?_
            refine g_cspi (rest := []) h (c_with hW s k true ) lX5_with mX11_279 (Nat.lt_of_lt_of_le (by decide) (Nat.le_refl _)) (by decide) rfl rfl rfl dX11_cuts_60 ?_
            refine g_istore_n (L' := [(0, .ref (w.1 12)), (1, .int (wth s k true)), (2, .int (nI k))]) h dX11_cuts_63 rfl (by decide) rfl ?_
            refine g_iincN (b := 1) (L' := [(0, .ref (w.1 12)), (1, .int (wth s k true)), (2, .int (nI (k + 1)))]) h dX11_cuts_64 2 rfl rfl (by decide) (by decide) rfl ?_
            refine g_goto h dX11_cuts_67 ?_
            exact ih20 (wth s k true) (k + 1) (τ) (by omega) (by rw [hs]; first | exact mkS_w (by omega) (by unfold ctF; rw [off_of hI c41]; rfl) | exact mkS_w (by omega) (by unfold ctF; rw [(on_of c41).2, c52]; rfl) | fail) (by first | exact hvτ | assumption | fail | fail) (by first | exact ht14000_τ | assumption | fail | fail) (by first | exact hcFR_τ | assumption | fail | fail) (by first | exact hcTR_τ | assumption | fail | fail) (by omega)
  exact lp20 (_) (nI 0) 0 σ_2 (by omega) (by rfl) (by first | exact hvσ_2 | assumption | fail | fail) (by first | exact ht14000_σ_2 | assumption | fail | fail) (by first | exact hcFR_σ_2 | assumption | fail | fail) (by first | exact hcTR_σ_2 | assumption | fail | fail) (Nat.lt_succ_self _)

theorem ct2_z {μ : Nat → Int32} {k a b : Nat} (h : a = k ∨ b = k ∨ tb (μ 1) a = false ∨ tb (μ 1) b = false ∨ far μ a b = 0 ∨ fB μ (wth (μ 1) k false) a b ≠ 0) : ct2 μ k a b = false := by
  unfold ct2
  rcases h with h | h | h | h | h | h
  · rw [decide_eq_true h]; rfl
  · rw [decide_eq_true h]; simp
  · rw [h]; simp
  · rw [h]; simp
  · rw [decide_eq_true h]; simp
  · rw [decide_eq_false h]; simp
theorem ct2_y {μ : Nat → Int32} {k a b : Nat} (h1 : a ≠ k) (h2 : b ≠ k) (h3 : tb (μ 1) a = true) (h4 : tb (μ 1) b = true) (h5 : far μ a b ≠ 0) (h6 : fB μ (wth (μ 1) k false) a b = 0) : ct2 μ k a b = true := by
  unfold ct2
  simp [h1, h2, h3, h4, h5, h6]
theorem cf_t {f f2 : Bool} {p : Nat → Bool} {b : Nat} (h : f2 = (f || anyB p b)) (c : f2 = true) : true = (f || anyB p (b + 1)) := by
  simp only [anyB]
  rw [← Bool.or_assoc, ← h, c]
  rfl
theorem cf_y {f f2 : Bool} {p : Nat → Bool} {b : Nat} (h : f2 = (f || anyB p b)) (c : p b = true) : true = (f || anyB p (b + 1)) := by
  simp only [anyB]
  rw [c, Bool.or_true, Bool.or_true]
theorem cf_n {f f2 : Bool} {p : Nat → Bool} {b : Nat} (h : f2 = (f || anyB p b)) (c : f2 = false) (d : p b = false) : false = (f || anyB p (b + 1)) := by
  simp only [anyB]
  rw [← Bool.or_assoc, ← h, c, d]
  rfl
theorem mq_y {f : Nat → Bool} {j : Nat} {s : Int32} (h : s = mkS f j) (c : f j = true) : s ||| bt1 j = mkS f (j + 1) := by
  rw [mkS_t c, h]
theorem mq_n {f : Nat → Bool} {j : Nat} {s : Int32} (h : s = mkS f j) (c : f j = false) : s ||| nI 0 = mkS f (j + 1) := by
  simp only [mkS]
  rw [c, if_neg (by decide), ← h]
  exact s_ext fun i _ => by rw [tb_or, tb_n0, Bool.or_false]

set_option maxRecDepth 100000 in
set_option maxHeartbeats 16000000 in
theorem q_cuts {l : Launch} {w : Wd} (hW : Wi w) {σ : Mem} (μ : Nat → Int32) (hv : vw 0 σ = μ) (hI : MI μ) : MC l w qX12_cuts 5 [.ref (w.1 0)] σ (some (.int (an (0) (mkS (ctF μ) (nN μ))))) (fun σ' => (σ' 4000 = (nI 0)) ∧ (∀ a, ((a < 4900 ∨ 6000 ≤ a) ∧ a ≠ 4000) → σ' a = σ a)) := by
  refine MC.of hW (by decide +kernel) (Nat.le_of_ble_eq_true rfl) (fun X h hQ hnm => ?_)
  have h : Fx X w cX12_cuts 6 RX12 5 := h
  have hQ : Qx X w (some .int) (some (.int (an (0) (mkS (ctF μ) (nN μ))))) (fun σ' => (σ' 4000 = (nI 0)) ∧ (∀ a, ((a < 4900 ∨ 6000 ≤ a) ∧ a ≠ 4000) → σ' a = σ a)) := hQ
  have hN8 := mi_8 hI
  have hcFR_σ : ∀ a, ((a < 4900 ∨ 6000 ≤ a) ∧ a ≠ 4000) → σ a = σ a := fun _ _ => rfl
  show G X w 6 0 [(0, .ref (w.1 0))] [] σ
  refine g_iconst h dX12_cuts_0 (by decide) ?_
  refine g_istore_n (L' := [(0, .ref (w.1 0)), (1, .int (nI 0))]) h dX12_cuts_1 rfl (by decide) rfl ?_
  refine g_iconst h dX12_cuts_2 (by decide) ?_
  refine g_istore_n (L' := [(0, .ref (w.1 0)), (1, .int (nI 0)), (2, .int (nI 0))]) h dX12_cuts_3 rfl (by decide) rfl ?_
  have lp4 : ∀ (k9 : Nat) (s : Int32) (k : Nat), (k ≤ nN μ) → (s = mkS (ctF μ) k) → nN μ - k < k9 → G X w 6 4 [(0, .ref (w.1 0)), (1, .int s), (2, .int (nI k))] [] σ := by
    intro k9
    induction k9 with
    | zero => intro s k hk hs hm9; exact absurd hm9 (Nat.not_lt_zero _)
    | succ k9 ih4 =>
      intro s k hk hs hm4
      refine g_iload_n h dX12_cuts_4 2 rfl ?_
      refine g_aload_n h dX12_cuts_5 0 rfl ?_
      refine g_iconst h dX12_cuts_6 (by decide) ?_
      refine g_cvpi (rest := [.int (nI k)]) h (r_of hW 0 μ (by assumption) (by omega)) lX12_of mX12_61 (Nat.lt_of_lt_of_le (by decide) (Nat.le_refl _)) (by decide) sc_0 rfl rfl rfl rfl dX12_cuts_7 ?_
      refine g_top (y := nI (nN μ)) (mi_0 (by assumption)) ?_
      refine g_icmpN_ge h dX12_cuts_10 (by omega) (by omega) (fun c10 => ?_) (fun c10 => ?_)
      ·
        refine g_aload_n h dX12_cuts_151 0 rfl ?_
        refine g_iload_n h dX12_cuts_152 1 rfl ?_
        refine g_cvi (rest := []) h (r_gives hW s ) lX12_gives mX12_281 (Nat.lt_of_lt_of_le (by decide) (Nat.le_refl _)) (by decide) sc_0 rfl rfl rfl rfl dX12_cuts_153 (fun σ_1 eσ_1 => ?_)
        have eσ_1_a : σ_1 = upd σ 4000 (nI 0) := eσ_1
        have ht4000_σ_1 : σ_1 4000 = (nI 0) := by rw [eσ_1_a]; exact upd_eq
        have hcFR_σ_1 : ∀ a, ((a < 4900 ∨ 6000 ≤ a) ∧ a ≠ 4000) → σ_1 a = σ a := by intro a ha; exact Eq.trans (b := σ a) (by rw [eσ_1_a, upd_ne (by first | omega | (simp only [vb] at *; omega))]) (hcFR_σ a ha)
        have hvσ_1 : vw 0 σ_1 = μ := by rw [eσ_1_a, vw_out (by omega)]; first | exact hv | assumption
        exact g_iret h hQ dX12_cuts_156 (congrArg (fun z => some (Value.int z)) (show (an (0) (mkS (ctF μ) (nN μ))) = s by first | exact an_yes (by rfl) (by rw [hs, show k = nN μ from by omega]) | exact an_no (k := 0) (by rfl) (by first | decide | omega | assumption | exact nb1 (by assumption)) | fail)) (by exact ⟨(by first | exact tk_eq (k := 0) (by rfl) ht4000_σ_1 | exact tk_eq (k := 0) (by rfl) ht4000_σ_1 | fail), (by exact hcFR_σ_1)⟩)
      ·
        refine g_iconst h dX12_cuts_13 (by decide) ?_
        refine g_istore_n (L' := [(0, .ref (w.1 0)), (1, .int s), (2, .int (nI k)), (3, .int (nI 0))]) h dX12_cuts_14 rfl (by decide) rfl ?_
        refine g_iconst h dX12_cuts_15 (by decide) ?_
        refine g_istore (L' := [(0, .ref (w.1 0)), (1, .int s), (2, .int (nI k)), (3, .int (nI 0)), (4, .int (nI 0))]) h dX12_cuts_16 rfl (by decide) rfl ?_
        have lp18 : ∀ (k9 : Nat) (f : Bool) (a : Nat), (a ≤ nN μ) → (f = anyB (fun a => anyB (ct2 μ k a) a) a) → nN μ - a < k9 → G X w 6 18 [(0, .ref (w.1 0)), (1, .int s), (2, .int (nI k)), (3, .int (b2i f)), (4, .int (nI a))] [] σ := by
          intro k9
          induction k9 with
          | zero => intro f a ha hf hm9; exact absurd hm9 (Nat.not_lt_zero _)
          | succ k9 ih18 =>
            intro f a ha hf hm18
            refine g_iload h dX12_cuts_18 4 rfl ?_
            refine g_aload_n h dX12_cuts_20 0 rfl ?_
            refine g_iconst h dX12_cuts_21 (by decide) ?_
            refine g_cvpi (rest := [.int (nI a)]) h (r_of hW 0 μ (by assumption) (by omega)) lX12_of mX12_61 (Nat.lt_of_lt_of_le (by decide) (Nat.le_refl _)) (by decide) sc_0 rfl rfl rfl rfl dX12_cuts_22 ?_
            refine g_top (y := nI (nN μ)) (mi_0 (by assumption)) ?_
            refine g_icmpN_ge h dX12_cuts_25 (by omega) (by omega) (fun c25 => ?_) (fun c25 => ?_)
            ·
              refine g_iload_n h dX12_cuts_123 1 rfl ?_
              refine g_aload_n h dX12_cuts_124 0 rfl ?_
              refine g_iload_n h dX12_cuts_125 2 rfl ?_
              refine g_cvpi (rest := [.int s]) h (r_isOn hW k μ (by assumption) (by omega)) lX12_isOn mX12_114 (Nat.lt_of_lt_of_le (by decide) (Nat.le_refl _)) (by decide) sc_0 rfl rfl rfl rfl dX12_cuts_126 ?_
              refine g_ifB_eq h dX12_cuts_129 (fun c129 => ?_) (fun c129 => ?_)
              ·
                refine g_iconst h dX12_cuts_142 (by decide) ?_
                refine g_ior h dX12_cuts_143  ?_
                refine g_istore_n (L' := [(0, .ref (w.1 0)), (1, .int (s ||| (nI 0))), (2, .int (nI k)), (3, .int (b2i f)), (4, .int (nI a))]) h dX12_cuts_144 rfl (by decide) rfl ?_
                refine g_iincN (b := 1) (L' := [(0, .ref (w.1 0)), (1, .int (s ||| (nI 0))), (2, .int (nI (k + 1))), (3, .int (b2i f)), (4, .int (nI a))]) h dX12_cuts_145 2 rfl rfl (by decide) (by decide) rfl ?_
                refine g_goto h dX12_cuts_148 ?_
                exact g_sub [0, 1, 2] rfl (ih4 (s ||| (nI 0)) (k + 1) (by omega) (by first | exact mq_n hs (by unfold ctF; rw [c129]; rfl) | exact mq_n hs (by unfold ctF; rw [← (show f = cut μ k by rw [← cut_2 hI (by omega), hf, show a = nN μ from by omega]; rfl), c133, Bool.and_false]) | exact mq_y hs (by unfold ctF; rw [← (show f = cut μ k by rw [← cut_2 hI (by omega), hf, show a = nN μ from by omega]; rfl), c133, c129]; rfl) | fail | fail) (by omega))
              ·
                refine g_iload_n h dX12_cuts_132 3 rfl ?_
                refine g_ifB_eq h dX12_cuts_133 (fun c133 => ?_) (fun c133 => ?_)
                ·
                  refine g_iconst h dX12_cuts_142 (by decide) ?_
                  refine g_ior h dX12_cuts_143  ?_
                  refine g_istore_n (L' := [(0, .ref (w.1 0)), (1, .int (s ||| (nI 0))), (2, .int (nI k)), (3, .int (b2i f)), (4, .int (nI a))]) h dX12_cuts_144 rfl (by decide) rfl ?_
                  refine g_iincN (b := 1) (L' := [(0, .ref (w.1 0)), (1, .int (s ||| (nI 0))), (2, .int (nI (k + 1))), (3, .int (b2i f)), (4, .int (nI a))]) h dX12_cuts_145 2 rfl rfl (by decide) (by decide) rfl ?_
                  refine g_goto h dX12_cuts_148 ?_
                  exact g_sub [0, 1, 2] rfl (ih4 (s ||| (nI 0)) (k + 1) (by omega) (by first | exact mq_n hs (by unfold ctF; rw [c129]; rfl) | exact mq_n hs (by unfold ctF; rw [← (show f = cut μ k by rw [← cut_2 hI (by omega), hf, show a = nN μ from by omega]; rfl), c133, Bool.and_false]) | exact mq_y hs (by unfold ctF; rw [← (show f = cut μ k by rw [← cut_2 hI (by omega), hf, show a = nN μ from by omega]; rfl), c133, c129]; rfl) | fail | fail) (by omega))
                ·
                  refine g_iconst h dX12_cuts_136 (by decide) ?_
                  refine g_iload_n h dX12_cuts_137 2 rfl ?_
                  refine g_ishl h dX12_cuts_138  ?_
                  refine g_top (y := bt1 k) rfl ?_
                  refine g_goto h dX12_cuts_139 ?_
                  refine g_ior h dX12_cuts_143  ?_
                  refine g_istore_n (L' := [(0, .ref (w.1 0)), (1, .int (s ||| (bt1 k))), (2, .int (nI k)), (3, .int (b2i f)), (4, .int (nI a))]) h dX12_cuts_144 rfl (by decide) rfl ?_
                  refine g_iincN (b := 1) (L' := [(0, .ref (w.1 0)), (1, .int (s ||| (bt1 k))), (2, .int (nI (k + 1))), (3, .int (b2i f)), (4, .int (nI a))]) h dX12_cuts_145 2 rfl rfl (by decide) (by decide) rfl ?_
                  refine g_goto h dX12_cuts_148 ?_
                  exact g_sub [0, 1, 2] rfl (ih4 (s ||| (bt1 k)) (k + 1) (by omega) (by first | exact mq_n hs (by unfold ctF; rw [c129]; rfl) | exact mq_n hs (by unfold ctF; rw [← (show f = cut μ k by rw [← cut_2 hI (by omega), hf, show a = nN μ from by omega]; rfl), c133, Bool.and_false]) | exact mq_y hs (by unfold ctF; rw [← (show f = cut μ k by rw [← cut_2 hI (by omega), hf, show a = nN μ from by omega]; rfl), c133, c129]; rfl) | fail | fail) (by omega))
            ·
              refine g_iconst h dX12_cuts_28 (by decide) ?_
              refine g_istore (L' := [(0, .ref (w.1 0)), (1, .int s), (2, .int (nI k)), (3, .int (b2i f)), (4, .int (nI a)), (5, .int (nI 0))]) h dX12_cuts_29 rfl (by decide) rfl ?_
              have lp31 : ∀ (k9 : Nat) (f2 : Bool) (b : Nat), (b ≤ a) → (f2 = (f || anyB (ct2 μ k a) b)) → a - b < k9 → G X w 6 31 [(0, .ref (w.1 0)), (1, .int s), (2, .int (nI k)), (3, .int (b2i f2)), (4, .int (nI a)), (5, .int (nI b))] [] σ := by
                intro k9
                induction k9 with
                | zero => intro f2 b hb hf2 hm9; exact absurd hm9 (Nat.not_lt_zero _)
                | succ k9 ih31 =>
                  intro f2 b hb hf2 hm31
                  refine g_iload h dX12_cuts_31 5 rfl ?_
                  refine g_iload h dX12_cuts_33 4 rfl ?_
                  refine g_icmpN_ge h dX12_cuts_35 (by omega) (by omega) (fun c35 => ?_) (fun c35 => ?_)
                  ·
                    refine g_iincN (b := 1) (L' := [(0, .ref (w.1 0)), (1, .int s), (2, .int (nI k)), (3, .int (b2i f2)), (4, .int (nI (a + 1))), (5, .int (nI b))]) h dX12_cuts_117 4 rfl rfl (by decide) (by decide) rfl ?_
                    refine g_goto h dX12_cuts_120 ?_
                    exact g_sub [0, 1, 2, 3, 4] rfl (ih18 f2 (a + 1) (by omega) (by simp only [anyB]; rw [hf2, hf, show b = a from by omega]) (by omega))
                  ·
                    refine g_iload_n h dX12_cuts_38 3 rfl ?_
                    refine g_ifB_ne h dX12_cuts_39 (fun c39 => ?_) (fun c39 => ?_)
                    ·
                      refine g_iconst h dX12_cuts_105 (by decide) ?_
                      refine g_goto h dX12_cuts_106 ?_
                      refine g_istore_n (L' := [(0, .ref (w.1 0)), (1, .int s), (2, .int (nI k)), (3, .int (nI 1)), (4, .int (nI a)), (5, .int (nI b))]) h dX12_cuts_110 rfl (by decide) rfl ?_
                      refine g_iincN (b := 1) (L' := [(0, .ref (w.1 0)), (1, .int s), (2, .int (nI k)), (3, .int (nI 1)), (4, .int (nI a)), (5, .int (nI (b + 1)))]) h dX12_cuts_111 5 rfl rfl (by decide) (by decide) rfl ?_
                      refine g_goto h dX12_cuts_114 ?_
                      exact ih31 true (b + 1) (by omega) (by first | exact cf_t hf2 c39 | exact cf_n hf2 c39 (ct2_z (Or.inl c45)) | exact cf_n hf2 c39 (ct2_z (Or.inr (Or.inl c51))) | exact cf_n hf2 c39 (ct2_z (Or.inr (Or.inr (Or.inl c60)))) | exact cf_n hf2 c39 (ct2_z (Or.inr (Or.inr (Or.inr (Or.inl c69))))) | exact cf_n hf2 c39 (ct2_z (Or.inr (Or.inr (Or.inr (Or.inr (Or.inl (by omega))))))) | exact cf_n hf2 c39 (ct2_z (Or.inr (Or.inr (Or.inr (Or.inr (Or.inr c102)))))) | exact cf_y hf2 (ct2_y c45 c51 c60 c69 (by omega) c102) | fail | fail) (by omega)
                    ·
                      refine g_iload h dX12_cuts_42 4 rfl ?_
                      refine g_iload_n h dX12_cuts_44 2 rfl ?_
                      refine g_icmpN_eq h dX12_cuts_45 (by omega) (by omega) (fun c45 => ?_) (fun c45 => ?_)
                      ·
                        refine g_iconst h dX12_cuts_109 (by decide) ?_
                        refine g_istore_n (L' := [(0, .ref (w.1 0)), (1, .int s), (2, .int (nI k)), (3, .int (nI 0)), (4, .int (nI a)), (5, .int (nI b))]) h dX12_cuts_110 rfl (by decide) rfl ?_
                        refine g_iincN (b := 1) (L' := [(0, .ref (w.1 0)), (1, .int s), (2, .int (nI k)), (3, .int (nI 0)), (4, .int (nI a)), (5, .int (nI (b + 1)))]) h dX12_cuts_111 5 rfl rfl (by decide) (by decide) rfl ?_
                        refine g_goto h dX12_cuts_114 ?_
                        exact ih31 false (b + 1) (by omega) (by first | exact cf_t hf2 c39 | exact cf_n hf2 c39 (ct2_z (Or.inl c45)) | exact cf_n hf2 c39 (ct2_z (Or.inr (Or.inl c51))) | exact cf_n hf2 c39 (ct2_z (Or.inr (Or.inr (Or.inl c60)))) | exact cf_n hf2 c39 (ct2_z (Or.inr (Or.inr (Or.inr (Or.inl c69))))) | exact cf_n hf2 c39 (ct2_z (Or.inr (Or.inr (Or.inr (Or.inr (Or.inl (by omega))))))) | exact cf_n hf2 c39 (ct2_z (Or.inr (Or.inr (Or.inr (Or.inr (Or.inr c102)))))) | exact cf_y hf2 (ct2_y c45 c51 c60 c69 (by omega) c102) | fail | fail) (by omega)
                      ·
                        refine g_iload h dX12_cuts_48 5 rfl ?_
                        refine g_iload_n h dX12_cuts_50 2 rfl ?_
                        refine g_icmpN_eq h dX12_cuts_51 (by omega) (by omega) (fun c51 => ?_) (fun c51 => ?_)
                        ·
                          refine g_iconst h dX12_cuts_109 (by decide) ?_
                          refine g_istore_n (L' := [(0, .ref (w.1 0)), (1, .int s), (2, .int (nI k)), (3, .int (nI 0)), (4, .int (nI a)), (5, .int (nI b))]) h dX12_cuts_110 rfl (by decide) rfl ?_
                          refine g_iincN (b := 1) (L' := [(0, .ref (w.1 0)), (1, .int s), (2, .int (nI k)), (3, .int (nI 0)), (4, .int (nI a)), (5, .int (nI (b + 1)))]) h dX12_cuts_111 5 rfl rfl (by decide) (by decide) rfl ?_
                          refine g_goto h dX12_cuts_114 ?_
                          exact ih31 false (b + 1) (by omega) (by first | exact cf_t hf2 c39 | exact cf_n hf2 c39 (ct2_z (Or.inl c45)) | exact cf_n hf2 c39 (ct2_z (Or.inr (Or.inl c51))) | exact cf_n hf2 c39 (ct2_z (Or.inr (Or.inr (Or.inl c60)))) | exact cf_n hf2 c39 (ct2_z (Or.inr (Or.inr (Or.inr (Or.inl c69))))) | exact cf_n hf2 c39 (ct2_z (Or.inr (Or.inr (Or.inr (Or.inr (Or.inl (by omega))))))) | exact cf_n hf2 c39 (ct2_z (Or.inr (Or.inr (Or.inr (Or.inr (Or.inr c102)))))) | exact cf_y hf2 (ct2_y c45 c51 c60 c69 (by omega) c102) | fail | fail) (by omega)
                        ·
                          refine g_aload_n h dX12_cuts_54 0 rfl ?_
                          refine g_iload h dX12_cuts_55 4 rfl ?_
                          refine g_cvpi (rest := []) h (r_isOn hW a μ (by assumption) (by omega)) lX12_isOn mX12_114 (Nat.lt_of_lt_of_le (by decide) (Nat.le_refl _)) (by decide) sc_0 rfl rfl rfl rfl dX12_cuts_57 ?_
                          refine g_ifB_eq h dX12_cuts_60 (fun c60 => ?_) (fun c60 => ?_)
                          ·
                            refine g_iconst h dX12_cuts_109 (by decide) ?_
                            refine g_istore_n (L' := [(0, .ref (w.1 0)), (1, .int s), (2, .int (nI k)), (3, .int (nI 0)), (4, .int (nI a)), (5, .int (nI b))]) h dX12_cuts_110 rfl (by decide) rfl ?_
                            refine g_iincN (b := 1) (L' := [(0, .ref (w.1 0)), (1, .int s), (2, .int (nI k)), (3, .int (nI 0)), (4, .int (nI a)), (5, .int (nI (b + 1)))]) h dX12_cuts_111 5 rfl rfl (by decide) (by decide) rfl ?_
                            refine g_goto h dX12_cuts_114 ?_
                            exact ih31 false (b + 1) (by omega) (by first | exact cf_t hf2 c39 | exact cf_n hf2 c39 (ct2_z (Or.inl c45)) | exact cf_n hf2 c39 (ct2_z (Or.inr (Or.inl c51))) | exact cf_n hf2 c39 (ct2_z (Or.inr (Or.inr (Or.inl c60)))) | exact cf_n hf2 c39 (ct2_z (Or.inr (Or.inr (Or.inr (Or.inl c69))))) | exact cf_n hf2 c39 (ct2_z (Or.inr (Or.inr (Or.inr (Or.inr (Or.inl (by omega))))))) | exact cf_n hf2 c39 (ct2_z (Or.inr (Or.inr (Or.inr (Or.inr (Or.inr c102)))))) | exact cf_y hf2 (ct2_y c45 c51 c60 c69 (by omega) c102) | fail | fail) (by omega)
                          ·
                            refine g_aload_n h dX12_cuts_63 0 rfl ?_
                            refine g_iload h dX12_cuts_64 5 rfl ?_
                            refine g_cvpi (rest := []) h (r_isOn hW b μ (by assumption) (by omega)) lX12_isOn mX12_114 (Nat.lt_of_lt_of_le (by decide) (Nat.le_refl _)) (by decide) sc_0 rfl rfl rfl rfl dX12_cuts_66 ?_
                            refine g_ifB_eq h dX12_cuts_69 (fun c69 => ?_) (fun c69 => ?_)
                            ·
                              refine g_iconst h dX12_cuts_109 (by decide) ?_
                              refine g_istore_n (L' := [(0, .ref (w.1 0)), (1, .int s), (2, .int (nI k)), (3, .int (nI 0)), (4, .int (nI a)), (5, .int (nI b))]) h dX12_cuts_110 rfl (by decide) rfl ?_
                              refine g_iincN (b := 1) (L' := [(0, .ref (w.1 0)), (1, .int s), (2, .int (nI k)), (3, .int (nI 0)), (4, .int (nI a)), (5, .int (nI (b + 1)))]) h dX12_cuts_111 5 rfl rfl (by decide) (by decide) rfl ?_
                              refine g_goto h dX12_cuts_114 ?_
                              exact ih31 false (b + 1) (by omega) (by first | exact cf_t hf2 c39 | exact cf_n hf2 c39 (ct2_z (Or.inl c45)) | exact cf_n hf2 c39 (ct2_z (Or.inr (Or.inl c51))) | exact cf_n hf2 c39 (ct2_z (Or.inr (Or.inr (Or.inl c60)))) | exact cf_n hf2 c39 (ct2_z (Or.inr (Or.inr (Or.inr (Or.inl c69))))) | exact cf_n hf2 c39 (ct2_z (Or.inr (Or.inr (Or.inr (Or.inr (Or.inl (by omega))))))) | exact cf_n hf2 c39 (ct2_z (Or.inr (Or.inr (Or.inr (Or.inr (Or.inr c102)))))) | exact cf_y hf2 (ct2_y c45 c51 c60 c69 (by omega) c102) | fail | fail) (by omega)
                            ·
                              refine g_aload_n h dX12_cuts_72 0 rfl ?_
                              refine g_iload h dX12_cuts_73 4 rfl ?_
                              refine g_iload h dX12_cuts_75 5 rfl ?_
                              refine g_cvpi (rest := []) h (r_farOf hW a b μ (by first | exact hv | assumption | fail) (by assumption) (by omega) (by omega)) lX12_farOf mX12_327 (Nat.lt_of_lt_of_le (by decide) (Nat.le_refl _)) (by decide) sc_0 rfl rfl rfl rfl dX12_cuts_77 ?_
                              have hfl := far_lt (μ := μ) (f := a) (t := b)
                              refine g_ifN_le h dX12_cuts_80 (by omega) (fun c80 => ?_) (fun c80 => ?_)
                              ·
                                refine g_iconst h dX12_cuts_109 (by decide) ?_
                                refine g_istore_n (L' := [(0, .ref (w.1 0)), (1, .int s), (2, .int (nI k)), (3, .int (nI 0)), (4, .int (nI a)), (5, .int (nI b))]) h dX12_cuts_110 rfl (by decide) rfl ?_
                                refine g_iincN (b := 1) (L' := [(0, .ref (w.1 0)), (1, .int s), (2, .int (nI k)), (3, .int (nI 0)), (4, .int (nI a)), (5, .int (nI (b + 1)))]) h dX12_cuts_111 5 rfl rfl (by decide) (by decide) rfl ?_
                                refine g_goto h dX12_cuts_114 ?_
                                exact ih31 false (b + 1) (by omega) (by first | exact cf_t hf2 c39 | exact cf_n hf2 c39 (ct2_z (Or.inl c45)) | exact cf_n hf2 c39 (ct2_z (Or.inr (Or.inl c51))) | exact cf_n hf2 c39 (ct2_z (Or.inr (Or.inr (Or.inl c60)))) | exact cf_n hf2 c39 (ct2_z (Or.inr (Or.inr (Or.inr (Or.inl c69))))) | exact cf_n hf2 c39 (ct2_z (Or.inr (Or.inr (Or.inr (Or.inr (Or.inl (by omega))))))) | exact cf_n hf2 c39 (ct2_z (Or.inr (Or.inr (Or.inr (Or.inr (Or.inr c102)))))) | exact cf_y hf2 (ct2_y c45 c51 c60 c69 (by omega) c102) | fail | fail) (by omega)
                              ·
                                refine g_aload_n h dX12_cuts_83 0 rfl ?_
                                refine g_iload h dX12_cuts_84 4 rfl ?_
                                refine g_iload h dX12_cuts_86 5 rfl ?_
                                refine g_aload_n h dX12_cuts_88 0 rfl ?_
                                refine g_iconst h dX12_cuts_89 (by decide) ?_
                                refine g_cvpi (rest := [.int (nI b), .int (nI a), .ref (w.1 0)]) h (r_of hW 1 μ (by assumption) (by omega)) lX12_of mX12_61 (Nat.lt_of_lt_of_le (by decide) (Nat.le_refl _)) (by decide) sc_0 rfl rfl rfl rfl dX12_cuts_90 ?_
                                refine g_iconst h dX12_cuts_93 (by decide) ?_
                                refine g_iload_n h dX12_cuts_94 2 rfl ?_
                                refine g_ishl h dX12_cuts_95  ?_
                                refine g_top (y := bt1 k) rfl ?_
                                refine g_iconstv h dX12_cuts_96 (v := (-1)) (by decide) ?_
                                refine g_ixor h dX12_cuts_97  ?_
                                refine g_top (y := nots (bt1 k)) rfl ?_
                                refine g_iand h dX12_cuts_98  ?_
                                refine g_top (y := (wth (μ 1) k false)) (by unfold wth nots; rfl) ?_
                                refine g_cvpi (rest := []) h (r_farBy hW a b (wth (μ 1) k false) μ (by first | exact hv | assumption | fail) (by assumption) (by omega) (by omega)) lX12_farBy mX12_324 (Nat.lt_of_lt_of_le (by decide) (Nat.le_refl _)) (by decide) sc_0 rfl rfl rfl rfl dX12_cuts_99 ?_
                                have hfl2 : fB μ (wth (μ 1) k false) a b < 8 := fs_le7
                                refine g_ifN_ne h dX12_cuts_102 (by omega) (fun c102 => ?_) (fun c102 => ?_)
                                ·
                                  refine g_iconst h dX12_cuts_109 (by decide) ?_
                                  refine g_istore_n (L' := [(0, .ref (w.1 0)), (1, .int s), (2, .int (nI k)), (3, .int (nI 0)), (4, .int (nI a)), (5, .int (nI b))]) h dX12_cuts_110 rfl (by decide) rfl ?_
                                  refine g_iincN (b := 1) (L' := [(0, .ref (w.1 0)), (1, .int s), (2, .int (nI k)), (3, .int (nI 0)), (4, .int (nI a)), (5, .int (nI (b + 1)))]) h dX12_cuts_111 5 rfl rfl (by decide) (by decide) rfl ?_
                                  refine g_goto h dX12_cuts_114 ?_
                                  exact ih31 false (b + 1) (by omega) (by first | exact cf_t hf2 c39 | exact cf_n hf2 c39 (ct2_z (Or.inl c45)) | exact cf_n hf2 c39 (ct2_z (Or.inr (Or.inl c51))) | exact cf_n hf2 c39 (ct2_z (Or.inr (Or.inr (Or.inl c60)))) | exact cf_n hf2 c39 (ct2_z (Or.inr (Or.inr (Or.inr (Or.inl c69))))) | exact cf_n hf2 c39 (ct2_z (Or.inr (Or.inr (Or.inr (Or.inr (Or.inl (by omega))))))) | exact cf_n hf2 c39 (ct2_z (Or.inr (Or.inr (Or.inr (Or.inr (Or.inr c102)))))) | exact cf_y hf2 (ct2_y c45 c51 c60 c69 (by omega) c102) | fail | fail) (by omega)
                                ·
                                  refine g_iconst h dX12_cuts_105 (by decide) ?_
                                  refine g_goto h dX12_cuts_106 ?_
                                  refine g_istore_n (L' := [(0, .ref (w.1 0)), (1, .int s), (2, .int (nI k)), (3, .int (nI 1)), (4, .int (nI a)), (5, .int (nI b))]) h dX12_cuts_110 rfl (by decide) rfl ?_
                                  refine g_iincN (b := 1) (L' := [(0, .ref (w.1 0)), (1, .int s), (2, .int (nI k)), (3, .int (nI 1)), (4, .int (nI a)), (5, .int (nI (b + 1)))]) h dX12_cuts_111 5 rfl rfl (by decide) (by decide) rfl ?_
                                  refine g_goto h dX12_cuts_114 ?_
                                  exact ih31 true (b + 1) (by omega) (by first | exact cf_t hf2 c39 | exact cf_n hf2 c39 (ct2_z (Or.inl c45)) | exact cf_n hf2 c39 (ct2_z (Or.inr (Or.inl c51))) | exact cf_n hf2 c39 (ct2_z (Or.inr (Or.inr (Or.inl c60)))) | exact cf_n hf2 c39 (ct2_z (Or.inr (Or.inr (Or.inr (Or.inl c69))))) | exact cf_n hf2 c39 (ct2_z (Or.inr (Or.inr (Or.inr (Or.inr (Or.inl (by omega))))))) | exact cf_n hf2 c39 (ct2_z (Or.inr (Or.inr (Or.inr (Or.inr (Or.inr c102)))))) | exact cf_y hf2 (ct2_y c45 c51 c60 c69 (by omega) c102) | fail | fail) (by omega)
              exact lp31 (_) f 0 (by omega) (by exact (Bool.or_false _).symm) (Nat.lt_succ_self _)
        exact lp18 (_) false 0 (by omega) (by rfl) (Nat.lt_succ_self _)
  exact lp4 (_) (nI 0) 0 (by omega) (by rfl) (Nat.lt_succ_self _)
