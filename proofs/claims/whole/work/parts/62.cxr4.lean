/-! read, load, the tape: the class's -/
theorem ad_z {ν : Nat → Int32} (h : jz ν) : jz (adn ν) := fun a h1 h2 => by
  unfold adn
  rw [upd_ne (by omega), upd_ne (by omega)]
  by_cases c : a = 16 + nN ν
  · omega
  · rw [upd_ne c]
    exact h a h1 h2
theorem nod_z {μ : Nat → Int32} (h : jz μ) : ∀ n, jz (nod9 μ n)
  | 0 => h
  | n + 1 => ad_z (nod_z h n)
theorem up_z {μ : Nat → Int32} {c : Nat} {v : Int32} (h : jz μ) (hc : c < 11 ∨ 16 ≤ c) : jz (upd μ c v) := fun a h1 h2 => by
  rw [upd_ne (by omega)]
  exact h a h1 h2
theorem EF_z {μ : Nat → Int32} {k a b c : Nat} (h : jz μ) : jz (EF μ k a b c) := by
  unfold EF
  repeat' split
  · exact nod_z h a
  · exact up_z h (by omega)
  · exact up_z (up_z h (by omega)) (by omega)
  · exact up_z h (by omega)
  · exact up_z h (by omega)
  · exact up_z h (by omega)
  · exact up_z h (by omega)
  · exact up_z h (by omega)
theorem bg_z : jz bgP := fun a h1 h2 => bgP_0 (by omega)
theorem ln_z {x : Nat → Nat} {L : Nat} {s : PS} (h : jz s.2.2.1) : jz (ln9 x L s).2.2.1 := by
  by_cases c : txK x L s.2.1 = 1
  · cases q : txW x L s.2.1 with
    | none => rw [ln9_k1 c q]; exact h
    | some k =>
      by_cases c2 : told9 s.2.2.2.1 s.2.2.2.2 k = true
      · rw [ln9_k2 c q c2]; exact h
      · rw [ln9_k3 c q c2]
        by_cases c3 : (ar9 x L s.2.2.1 k (na9 k) 0 0 (txE x L s.2.1)).1 = 0
        · rw [lk9_y c3]; exact EF_z h
        · rw [lk9_n c3]; exact h
  · rw [ln9_k0 c]; exact h
theorem pk_z {s : Nat} {a b : Nat → Int32} (ha : jz a) (hb : jz b) : jz (pk0 s a b) := by
  unfold pk0
  split
  · exact ha
  · exact hb
theorem tx_cp {σ : Mem} {n t : Nat} {tp : Nat → Nat} (h : TX 14100 σ t tp) (hn : n ≤ t) : TX 15600 (cp σ 15600 14100 n) n tp := fun k hk => by
  rw [cp_at hk]
  exact h k (by omega)

set_option maxRecDepth 100000 in
set_option maxHeartbeats 4000000 in
theorem c_read {l : Launch} {w : Wd} (hW : Wi w) {σ : Mem} (F : PS) (L t : Nat) (x : Nat → Nat) (g : Nat → Nat → Int32) (m : Nat) (μ : Nat → Int32) (hm : m < 6) (hv : vw (vb m) σ = μ) (hjz : jz μ) (ht9 : t ≤ 400) (hLt : L ≤ t) (hFe : F = tx9 x L 400) (hcTP_σ : TX 14100 σ t x) : MC l w qX7_read 7 [.ref (w.1 15), .ref (w.1 13), .int (nI L), .ref (w.1 (mc m 0))] σ none (fun σ' => (σ' 15000 = (nI F.1)) ∧ (σ' 15001 = (if F.1 = 0 then -1 else nI (txS x L F.2.1))) ∧ (TX 14100 σ' t x) ∧ (LC (vb m) σ' 0 g) ∧ (∃ ν, vw (vb m) σ' = ν ∧ jz ν ∧ (F.1 = 0 → ν = F.2.2.1)) ∧ (∀ a, ((a < vb m ∨ vb m + 528 ≤ a) ∧ (a < 15000 ∨ (15013 ≤ a ∧ a < 15600) ∨ 16000 ≤ a)) → σ' a = σ a)) := by
  refine MC.of hW (by decide +kernel) (Nat.le_of_ble_eq_true rfl) (fun X h hQ hnm => ?_)
  have h : Fx X w cX7_read 5 RX7 7 := h
  have hQ : Qx X w none none (fun σ' => (σ' 15000 = (nI F.1)) ∧ (σ' 15001 = (if F.1 = 0 then -1 else nI (txS x L F.2.1))) ∧ (TX 14100 σ' t x) ∧ (LC (vb m) σ' 0 g) ∧ (∃ ν, vw (vb m) σ' = ν ∧ jz ν ∧ (F.1 = 0 → ν = F.2.2.1)) ∧ (∀ a, ((a < vb m ∨ vb m + 528 ≤ a) ∧ (a < 15000 ∨ (15013 ≤ a ∧ a < 15600) ∨ 16000 ≤ a)) → σ' a = σ a)) := hQ
  have hvb1 : vb m = 10000 + 528 * m := rfl
  have hcFR_σ : ∀ a, ((a < vb m ∨ vb m + 528 ≤ a) ∧ (a < 15000 ∨ (15013 ≤ a ∧ a < 15600) ∨ 16000 ≤ a)) → σ a = σ a := fun _ _ => rfl
  show G X w 5 0 [(0, .ref (w.1 15)), (1, .ref (w.1 13)), (2, .int (nI L)), (3, .ref (w.1 (mc m 0)))] [] σ
  refine g_aload_n h dX7_read_0 0 rfl ?_
  refine g_iload_n h dX7_read_1 2 rfl ?_
  refine g_aload_n h dX7_read_2 1 rfl ?_
  refine g_alen1 h dX7_read_3 sc_13 ?_
  refine g_sipush h dX7_read_4 (by decide) ?_
  refine g_cspi (rest := [.int (nI L), .ref (w.1 15)]) h (j_minB hW 400 400 (by omega) (by omega)) lJ9_min_7cf53 mX7_19 (Nat.lt_of_lt_of_le (by decide) (Nat.le_refl _)) (by decide) rfl rfl rfl dX7_read_7 ?_
  refine g_cspi (rest := [.ref (w.1 15)]) h (j_minB hW L (min 400 400) (by omega) (by omega)) lJ9_min_7cf53 mX7_19 (Nat.lt_of_lt_of_le (by decide) (Nat.le_refl _)) (by decide) rfl rfl rfl dX7_read_10 ?_
  refine g_top (y := (nI L)) (by congr 1; omega) ?_
  refine g_puti h dX7_read_13 pX7_25 sc_15 rfl ?_
  refine g_nm (fun σl eσl => ?_)
  have eσl : σl = upd σ 15002 (nI L) := eσl
  have ht15002_σl : σl 15002 = (nI L) := by rw [eσl]; exact upd_eq
  have hcTP_σl : TX 14100 σl t x := by rw [eσl]; exact TX.fr hcTP_σ (fun a ha hb => upd_ne (by first | omega | (simp only [vb] at *; omega)))
  have hcFR_σl : ∀ a, ((a < vb m ∨ vb m + 528 ≤ a) ∧ (a < 15000 ∨ (15013 ≤ a ∧ a < 15600) ∨ 16000 ≤ a)) → σl a = σ a := by intro a ha; exact Eq.trans (b := σ a) (by rw [eσl, upd_ne (by first | omega | (simp only [vb] at *; omega))]) (hcFR_σ a ha)
  have hvσl : vw (vb m) σl = μ := by rw [eσl, vw_out (by first | omega | (simp only [vb] at *; omega))]; first | exact hv | assumption
  refine g_aload_n h dX7_read_16 1 rfl ?_
  refine g_iconst h dX7_read_17 (by decide) ?_
  refine g_aload_n h dX7_read_18 0 rfl ?_
  refine g_getr h dX7_read_19 gX7_9 sc_15 rfl ?_
  refine g_iconst h dX7_read_22 (by decide) ?_
  refine g_aload_n h dX7_read_23 0 rfl ?_
  refine g_geti h dX7_read_24 gX7_25 sc_15 rfl ?_
  refine g_top (y := (nI L)) (by first | exact ht15002_σl | assumption) ?_
  refine g_copy (σ' := cp σl 15600 14100 L) 1 (by decide) h mX7_29 (by decide) sc_13 sc_16 (by omega) (by omega) (fun _ k hk => by show fits .byte (.int (σl (14100 + (0 + k)))) = true; rw [Nat.zero_add, (hcTP_σl k (by omega)).2]; exact (by8_k (hcTP_σl k (by omega)).1).2.2.2.2.2) rfl dX7_read_27 (cp_h1 (fun k => rfl) (fun k => rfl)) (cp_h2 (fun k => rfl) (by omega)) ?_
  refine g_nm (fun σc eσc => ?_)
  have eσc_f : ∀ a, (a < 15600 ∨ 15600 + L ≤ a) → σc a = σl a := fun a ha => by rw [eσc]; exact cp_out ha
  have ht15002_σc : σc 15002 = (nI L) := by rw [eσc_f _ (by first | omega | (simp only [vb] at *; omega))]; first | exact ht15002_σl | assumption
  have hcTP_σc : TX 14100 σc t x := by exact TX.fr hcTP_σl (fun a ha hb => eσc_f a (by first | omega | (simp only [vb] at *; omega)))
  have hcFR_σc : ∀ a, ((a < vb m ∨ vb m + 528 ≤ a) ∧ (a < 15000 ∨ (15013 ≤ a ∧ a < 15600) ∨ 16000 ≤ a)) → σc a = σ a := by intro a ha; exact Eq.trans (b := σl a) (eσc_f a (by first | omega | (simp only [vb] at *; omega))) (hcFR_σl a ha)
  have hvσc : vw (vb m) σc = μ := by rw [vw_fr (σ := σl) (fun j _ _ => eσc_f _ (by first | omega | (simp only [vb] at *; omega)))]; first | exact hvσl | assumption
  have hcTX_σc : TX 15600 σc L x := by rw [eσc]; exact tx_cp hcTP_σl hLt
  refine g_aload_n h dX7_read_30 3 rfl ?_
  refine g_cvv (rest := []) h (c_clear hW g m μ (by first | omega | decide | fail) (by first | exact hvσc | assumption | fail) (by exact hjz)) lX5_clear mX7_35 (Nat.lt_of_lt_of_le (by decide) (Nat.le_refl _)) (by decide) (sM_0 (m := m) (by omega)) rfl rfl rfl rfl dX7_read_31 (fun σ_1 eσ_1 => ?_)
  obtain ⟨eσ_1_a, eσ_1_b, eσ_1_c⟩ := eσ_1
  have eσ_1_a : vw (vb m) σ_1 = bgP := eσ_1_a
  have eσ_1_b : LC (vb m) σ_1 0 g := eσ_1_b
  have eσ_1_c : ∀ a, (a < vb m ∨ vb m + 528 ≤ a) → σ_1 a = σc a := eσ_1_c
  have ht15002_σ_1 : σ_1 15002 = (nI L) := by rw [eσ_1_c _ (by first | omega | (simp only [vb] at *; omega))]; first | exact ht15002_σc | assumption
  have hcTP_σ_1 : TX 14100 σ_1 t x := by exact TX.fr hcTP_σc (fun a ha hb => eσ_1_c a (by first | omega | (simp only [vb] at *; omega)))
  have hcFR_σ_1 : ∀ a, ((a < vb m ∨ vb m + 528 ≤ a) ∧ (a < 15000 ∨ (15013 ≤ a ∧ a < 15600) ∨ 16000 ≤ a)) → σ_1 a = σ a := by intro a ha; exact Eq.trans (b := σc a) (eσ_1_c a (by first | omega | (simp only [vb] at *; omega))) (hcFR_σc a ha)
  have hcTX_σ_1 : TX 15600 σ_1 L x := by exact TX.fr hcTX_σc (fun a ha hb => eσ_1_c a (by first | omega | (simp only [vb] at *; omega)))
  have hcLC_σ_1 : LC (vb m) σ_1 0 g := eσ_1_b
  obtain ⟨μc, eμc⟩ : ∃ μc : Nat → Int32, μc = bgP := ⟨_, rfl⟩
  have hvσ_1 : vw (vb m) σ_1 = μc := by rw [eμc]; exact eσ_1_a
  refine g_aload_n h dX7_read_34 0 rfl ?_
  refine g_iconst h dX7_read_35 (by decide) ?_
  refine g_puti h dX7_read_36 pX7_40 sc_15 rfl ?_
  refine g_nm (fun σg eσg => ?_)
  have eσg : σg = upd σ_1 15006 (nI 0) := eσg
  have ht15002_σg : σg 15002 = (nI L) := by rw [eσg, upd_ne (by first | omega | (simp only [vb] at *; omega))]; first | exact ht15002_σ_1 | assumption
  have hcTP_σg : TX 14100 σg t x := by rw [eσg]; exact TX.fr hcTP_σ_1 (fun a ha hb => upd_ne (by first | omega | (simp only [vb] at *; omega)))
  have hcFR_σg : ∀ a, ((a < vb m ∨ vb m + 528 ≤ a) ∧ (a < 15000 ∨ (15013 ≤ a ∧ a < 15600) ∨ 16000 ≤ a)) → σg a = σ a := by intro a ha; exact Eq.trans (b := σ_1 a) (by rw [eσg, upd_ne (by first | omega | (simp only [vb] at *; omega))]) (hcFR_σ_1 a ha)
  have hcTX_σg : TX 15600 σg L x := by rw [eσg]; exact TX.fr hcTX_σ_1 (fun a ha hb => upd_ne (by first | omega | (simp only [vb] at *; omega)))
  have hcLC_σg : LC (vb m) σg 0 g := by rw [eσg]; exact LC.fr hcLC_σ_1 (fun a ha hb => upd_ne (by first | omega | (simp only [vb] at *; omega)))
  have hvσg : vw (vb m) σg = μc := by rw [eσg, vw_out (by first | omega | (simp only [vb] at *; omega))]; first | exact hvσ_1 | assumption
  have hcTC_σg : TC σg false false := tc_0 (by rw [eσg]; exact upd_eq)
  refine g_aload_n h dX7_read_39 0 rfl ?_
  refine g_iconst h dX7_read_40 (by decide) ?_
  refine g_puti h dX7_read_41 pX7_43 sc_15 rfl ?_
  refine g_nm (fun σ_2 eσ_2 => ?_)
  have eσ_2 : σ_2 = upd σg 15005 (nI 0) := eσ_2
  have ht15002_σ_2 : σ_2 15002 = (nI L) := by rw [eσ_2, upd_ne (by first | omega | (simp only [vb] at *; omega))]; first | exact ht15002_σg | assumption
  have ht15005_σ_2 : σ_2 15005 = (nI 0) := by rw [eσ_2]; exact upd_eq
  have hcTP_σ_2 : TX 14100 σ_2 t x := by rw [eσ_2]; exact TX.fr hcTP_σg (fun a ha hb => upd_ne (by first | omega | (simp only [vb] at *; omega)))
  have hcFR_σ_2 : ∀ a, ((a < vb m ∨ vb m + 528 ≤ a) ∧ (a < 15000 ∨ (15013 ≤ a ∧ a < 15600) ∨ 16000 ≤ a)) → σ_2 a = σ a := by intro a ha; exact Eq.trans (b := σg a) (by rw [eσ_2, upd_ne (by first | omega | (simp only [vb] at *; omega))]) (hcFR_σg a ha)
  have hcTX_σ_2 : TX 15600 σ_2 L x := by rw [eσ_2]; exact TX.fr hcTX_σg (fun a ha hb => upd_ne (by first | omega | (simp only [vb] at *; omega)))
  have hcLC_σ_2 : LC (vb m) σ_2 0 g := by rw [eσ_2]; exact LC.fr hcLC_σg (fun a ha hb => upd_ne (by first | omega | (simp only [vb] at *; omega)))
  have hcTC_σ_2 : TC σ_2 false false := by rw [eσ_2]; exact TC.fr hcTC_σg (upd_ne (by first | omega | (simp only [vb] at *; omega)))
  have hvσ_2 : vw (vb m) σ_2 = μc := by rw [eσ_2, vw_out (by first | omega | (simp only [vb] at *; omega))]; first | exact hvσg | assumption
  refine g_aload_n h dX7_read_44 0 rfl ?_
  refine g_iconst h dX7_read_45 (by decide) ?_
  refine g_puti h dX7_read_46 pX7_46 sc_15 rfl ?_
  refine g_nm (fun σ_3 eσ_3 => ?_)
  have eσ_3 : σ_3 = upd σ_2 15000 (nI 0) := eσ_3
  have ht15002_σ_3 : σ_3 15002 = (nI L) := by rw [eσ_3, upd_ne (by first | omega | (simp only [vb] at *; omega))]; first | exact ht15002_σ_2 | assumption
  have ht15005_σ_3 : σ_3 15005 = (nI 0) := by rw [eσ_3, upd_ne (by first | omega | (simp only [vb] at *; omega))]; first | exact ht15005_σ_2 | assumption
  have ht15000_σ_3 : σ_3 15000 = (nI 0) := by rw [eσ_3]; exact upd_eq
  have hcTP_σ_3 : TX 14100 σ_3 t x := by rw [eσ_3]; exact TX.fr hcTP_σ_2 (fun a ha hb => upd_ne (by first | omega | (simp only [vb] at *; omega)))
  have hcFR_σ_3 : ∀ a, ((a < vb m ∨ vb m + 528 ≤ a) ∧ (a < 15000 ∨ (15013 ≤ a ∧ a < 15600) ∨ 16000 ≤ a)) → σ_3 a = σ a := by intro a ha; exact Eq.trans (b := σ_2 a) (by rw [eσ_3, upd_ne (by first | omega | (simp only [vb] at *; omega))]) (hcFR_σ_2 a ha)
  have hcTX_σ_3 : TX 15600 σ_3 L x := by rw [eσ_3]; exact TX.fr hcTX_σ_2 (fun a ha hb => upd_ne (by first | omega | (simp only [vb] at *; omega)))
  have hcLC_σ_3 : LC (vb m) σ_3 0 g := by rw [eσ_3]; exact LC.fr hcLC_σ_2 (fun a ha hb => upd_ne (by first | omega | (simp only [vb] at *; omega)))
  have hcTC_σ_3 : TC σ_3 false false := by rw [eσ_3]; exact TC.fr hcTC_σ_2 (upd_ne (by first | omega | (simp only [vb] at *; omega)))
  have hvσ_3 : vw (vb m) σ_3 = μc := by rw [eσ_3, vw_out (by first | omega | (simp only [vb] at *; omega))]; first | exact hvσ_2 | assumption
  refine g_aload_n h dX7_read_49 0 rfl ?_
  refine g_iconstv h dX7_read_50 (v := (-1)) (by decide) ?_
  refine g_puti h dX7_read_51 pX7_49 sc_15 rfl ?_
  refine g_nm (fun σ_4 eσ_4 => ?_)
  have eσ_4 : σ_4 = upd σ_3 15001 (-1) := eσ_4
  have ht15002_σ_4 : σ_4 15002 = (nI L) := by rw [eσ_4, upd_ne (by first | omega | (simp only [vb] at *; omega))]; first | exact ht15002_σ_3 | assumption
  have ht15005_σ_4 : σ_4 15005 = (nI 0) := by rw [eσ_4, upd_ne (by first | omega | (simp only [vb] at *; omega))]; first | exact ht15005_σ_3 | assumption
  have ht15000_σ_4 : σ_4 15000 = (nI 0) := by rw [eσ_4, upd_ne (by first | omega | (simp only [vb] at *; omega))]; first | exact ht15000_σ_3 | assumption
  have ht15001_σ_4 : σ_4 15001 = (-1) := by rw [eσ_4]; exact upd_eq
  have hcTP_σ_4 : TX 14100 σ_4 t x := by rw [eσ_4]; exact TX.fr hcTP_σ_3 (fun a ha hb => upd_ne (by first | omega | (simp only [vb] at *; omega)))
  have hcFR_σ_4 : ∀ a, ((a < vb m ∨ vb m + 528 ≤ a) ∧ (a < 15000 ∨ (15013 ≤ a ∧ a < 15600) ∨ 16000 ≤ a)) → σ_4 a = σ a := by intro a ha; exact Eq.trans (b := σ_3 a) (by rw [eσ_4, upd_ne (by first | omega | (simp only [vb] at *; omega))]) (hcFR_σ_3 a ha)
  have hcTX_σ_4 : TX 15600 σ_4 L x := by rw [eσ_4]; exact TX.fr hcTX_σ_3 (fun a ha hb => upd_ne (by first | omega | (simp only [vb] at *; omega)))
  have hcLC_σ_4 : LC (vb m) σ_4 0 g := by rw [eσ_4]; exact LC.fr hcLC_σ_3 (fun a ha hb => upd_ne (by first | omega | (simp only [vb] at *; omega)))
  have hcTC_σ_4 : TC σ_4 false false := by rw [eσ_4]; exact TC.fr hcTC_σ_3 (upd_ne (by first | omega | (simp only [vb] at *; omega)))
  have hvσ_4 : vw (vb m) σ_4 = μc := by rw [eσ_4, vw_out (by first | omega | (simp only [vb] at *; omega))]; first | exact hvσ_3 | assumption
  refine g_aload_n h dX7_read_54 0 rfl ?_
  refine g_cvv (rest := []) h (c_advance hW 0 L x (by first | omega | assumption | fail) (by first | omega | assumption | fail) (by first | exact ht15002_σ_4 | assumption | fail) (by first | exact ht15005_σ_4 | assumption | fail) (by first | exact hcTX_σ_4 | assumption | fail)) lX7_advance mX7_52 (Nat.lt_of_lt_of_le (by decide) (Nat.le_refl _)) (by decide) sc_15 rfl rfl rfl rfl dX7_read_55 (fun σ_5 eσ_5 => ?_)
  obtain ⟨eσ_5_a, eσ_5_b, eσ_5_c, eσ_5_d, eσ_5_e, eσ_5_f⟩ := eσ_5
  have eσ_5_a : σ_5 15002 = (nI L) := eσ_5_a
  have eσ_5_b : σ_5 15003 = (nI (txK x L 0)) := eσ_5_b
  have eσ_5_c : σ_5 15004 = (nI (txS x L 0)) := eσ_5_c
  have eσ_5_d : σ_5 15005 = (nI (txE x L 0)) := eσ_5_d
  have eσ_5_e : TX 15600 σ_5 L x := eσ_5_e
  have eσ_5_f : ∀ a, (a < 15003 ∨ 15005 < a) → σ_5 a = σ_4 a := eσ_5_f
  have ht15000_σ_5 : σ_5 15000 = (nI 0) := by rw [eσ_5_f _ (by first | omega | (simp only [vb] at *; omega))]; first | exact ht15000_σ_4 | assumption
  have ht15001_σ_5 : σ_5 15001 = (-1) := by rw [eσ_5_f _ (by first | omega | (simp only [vb] at *; omega))]; first | exact ht15001_σ_4 | assumption
  have ht15002_σ_5 : σ_5 15002 = (nI L) := eσ_5_a
  have ht15003_σ_5 : σ_5 15003 = (nI (txK x L 0)) := eσ_5_b
  have ht15004_σ_5 : σ_5 15004 = (nI (txS x L 0)) := eσ_5_c
  have ht15005_σ_5 : σ_5 15005 = (nI (txE x L 0)) := eσ_5_d
  have hcTP_σ_5 : TX 14100 σ_5 t x := by exact TX.fr hcTP_σ_4 (fun a ha hb => eσ_5_f a (by first | omega | (simp only [vb] at *; omega)))
  have hcFR_σ_5 : ∀ a, ((a < vb m ∨ vb m + 528 ≤ a) ∧ (a < 15000 ∨ (15013 ≤ a ∧ a < 15600) ∨ 16000 ≤ a)) → σ_5 a = σ a := by intro a ha; exact Eq.trans (b := σ_4 a) (eσ_5_f a (by first | omega | (simp only [vb] at *; omega))) (hcFR_σ_4 a ha)
  have hcTX_σ_5 : TX 15600 σ_5 L x := eσ_5_e
  have hcLC_σ_5 : LC (vb m) σ_5 0 g := by exact LC.fr hcLC_σ_4 (fun a ha hb => eσ_5_f a (by first | omega | (simp only [vb] at *; omega)))
  have hcTC_σ_5 : TC σ_5 false false := by exact TC.fr hcTC_σ_4 (eσ_5_f _ (by first | omega | (simp only [vb] at *; omega)))
  have hvσ_5 : vw (vb m) σ_5 = μc := by rw [vw_fr (σ := σ_4) (fun j _ _ => eσ_5_f _ (by first | omega | (simp only [vb] at *; omega)))]; first | exact hvσ_4 | assumption
  refine g_iconst h dX7_read_58 (by decide) ?_
  refine g_istore (L' := [(0, .ref (w.1 15)), (1, .ref (w.1 13)), (2, .int (nI L)), (3, .ref (w.1 (mc m 0))), (4, .int (nI 0))]) h dX7_read_59 rfl (by decide) rfl ?_
  have lp61 : ∀ (k9 : Nat) (i : Nat) (μi : Nat → Int32) (τ : Mem), (i ≤ 400) → (jz μi) → ((tx9 x L i).1 = 0 → μi = (tx9 x L i).2.2.1) → ((tx9 x L i).1 = 0 → TC τ (tx9 x L i).2.2.2.1 (tx9 x L i).2.2.2.2) → (vw (vb m) τ = μi) → (τ 15000 = (nI ((tx9 x L i).1))) → (τ 15001 = (if (tx9 x L i).1 = 0 then -1 else nI (txS x L (tx9 x L i).2.1))) → (τ 15002 = (nI L)) → (τ 15003 = (nI (txK x L (if (tx9 x L i).1 = 0 then (tx9 x L i).2.1 else txE x L (tx9 x L i).2.1)))) → (τ 15004 = (nI (txS x L (if (tx9 x L i).1 = 0 then (tx9 x L i).2.1 else txE x L (tx9 x L i).2.1)))) → (τ 15005 = (nI (txE x L (if (tx9 x L i).1 = 0 then (tx9 x L i).2.1 else txE x L (tx9 x L i).2.1)))) → (TX 14100 τ t x) → (∀ a, ((a < vb m ∨ vb m + 528 ≤ a) ∧ (a < 15000 ∨ (15013 ≤ a ∧ a < 15600) ∨ 16000 ≤ a)) → τ a = σ a) → (TX 15600 τ L x) → (LC (vb m) τ 0 g) → 400 - i < k9 → G X w 5 61 [(0, .ref (w.1 15)), (1, .ref (w.1 13)), (2, .int (nI L)), (3, .ref (w.1 (mc m 0))), (4, .int (nI i))] [] (τ) := by
    intro k9
    induction k9 with
    | zero => intro i μi τ hi4 hjI hμi hTC hvτ ht15000_τ ht15001_τ ht15002_τ ht15003_τ ht15004_τ ht15005_τ hcTP_τ hcFR_τ hcTX_τ hcLC_τ hm9; exact absurd hm9 (Nat.not_lt_zero _)
    | succ k9 ih61 =>
      intro i μi τ hi4 hjI hμi hTC hvτ ht15000_τ ht15001_τ ht15002_τ ht15003_τ ht15004_τ ht15005_τ hcTP_τ hcFR_τ hcTX_τ hcLC_τ hm61
      obtain ⟨hA1, hA2, hA3⟩ := tx9_ok (x := x) (L := L) i
      have hk5 := txK_5 (x := x) (L := L) (e := (if (tx9 x L i).1 = 0 then (tx9 x L i).2.1 else txE x L (tx9 x L i).2.1))
      refine g_iload h dX7_read_61 4 rfl ?_
      refine g_sipush h dX7_read_63 (by decide) ?_
      refine g_icmpN_ge h dX7_read_66 (by omega) (by omega) (fun c66 => ?_) (fun c66 => ?_)
      ·
        have hEnd : F = (tx9 x L i) := hFe.trans (by rw [show i = 400 from by omega])
        exact g_vret h hQ dX7_read_98 rfl (by exact ⟨(by rw [hEnd]; exact ht15000_τ), (by rw [hEnd]; exact ht15001_τ), (by first | exact hcTP_τ | assumption | fail), (by exact hcLC_τ), (by exact ⟨_, hvτ, hjI, fun z => by rw [hEnd] at z ⊢; exact hμi z⟩), (by exact hcFR_τ)⟩)
      ·
        refine g_aload_n h dX7_read_69 0 rfl ?_
        refine g_geti h dX7_read_70 gX7_46 sc_15 rfl ?_
        refine g_top (y := (nI ((tx9 x L i).1))) (by first | exact ht15000_τ | assumption) ?_
        refine g_ifN_ne h dX7_read_73 (by omega) (fun c73 => ?_) (fun c73 => ?_)
        ·
          have hEnd : F = (tx9 x L i) := hFe.trans (tx9_fin (by omega) (fun z => c73 z.1))
          exact g_vret h hQ dX7_read_98 rfl (by exact ⟨(by rw [hEnd]; exact ht15000_τ), (by rw [hEnd]; exact ht15001_τ), (by first | exact hcTP_τ | assumption | fail), (by exact hcLC_τ), (by exact ⟨_, hvτ, hjI, fun z => by rw [hEnd] at z ⊢; exact hμi z⟩), (by exact hcFR_τ)⟩)
        ·
          refine g_aload_n h dX7_read_76 0 rfl ?_
          refine g_geti h dX7_read_77 gX7_55 sc_15 rfl ?_
          refine g_top (y := (nI (txK x L (if (tx9 x L i).1 = 0 then (tx9 x L i).2.1 else txE x L (tx9 x L i).2.1)))) (by first | exact ht15003_τ | assumption) ?_
          refine g_ifN_eq h dX7_read_80 (by omega) (fun c80 => ?_) (fun c80 => ?_)
          ·
            have hEnd : F = (tx9 x L i) := hFe.trans (tx9_fin (by omega) (fun z => z.2 (by have q : (if (tx9 x L i).1 = 0 then (tx9 x L i).2.1 else txE x L (tx9 x L i).2.1) = (tx9 x L i).2.1 := if_pos c73; rw [← q]; exact c80)))
            exact g_vret h hQ dX7_read_98 rfl (by exact ⟨(by rw [hEnd]; exact ht15000_τ), (by rw [hEnd]; exact ht15001_τ), (by first | exact hcTP_τ | assumption | fail), (by exact hcLC_τ), (by exact ⟨_, hvτ, hjI, fun z => by rw [hEnd] at z ⊢; exact hμi z⟩), (by exact hcFR_τ)⟩)
          ·
            have hg9 : (tx9 x L i).1 = 0 := c73
            have hPO : (if (tx9 x L i).1 = 0 then (tx9 x L i).2.1 else txE x L (tx9 x L i).2.1) = (tx9 x L i).2.1 := if_pos hg9
            have hrun : (tx9 x L i).1 = 0 ∧ txK x L (tx9 x L i).2.1 ≠ 0 := ⟨hg9, by rw [← hPO]; exact c80⟩
            have hN : (tx9 x L (i + 1)) = (ln9 x L (0, (tx9 x L i).2.1, (tx9 x L i).2.2.1, (tx9 x L i).2.2.2.1, (tx9 x L i).2.2.2.2)) := by rw [pk9 hg9]; exact tx9_go hrun
            have ht15000_τ : τ 15000 = (nI 0) := by rw [ht15000_τ, hg9]
            have ht15001_τ : τ 15001 = (-1) := by rw [ht15001_τ, if_pos hg9]
            have ht15003_τ : τ 15003 = (nI (txK x L (tx9 x L i).2.1)) := by rw [ht15003_τ, hPO]
            have ht15004_τ : τ 15004 = (nI (txS x L (tx9 x L i).2.1)) := by rw [ht15004_τ, hPO]
            have ht15005_τ : τ 15005 = (nI (txE x L (tx9 x L i).2.1)) := by rw [ht15005_τ, hPO]
            have hcTC_τ : TC τ (tx9 x L i).2.2.2.1 (tx9 x L i).2.2.2.2 := hTC hg9
            refine g_aload_n h dX7_read_83 0 rfl ?_
            refine g_aload_n h dX7_read_84 3 rfl ?_
            refine g_cvv (rest := []) h (c_readLine hW ((tx9 x L i).2.2.2.1) ((tx9 x L i).2.2.2.2) ((tx9 x L i).2.1) L x (-1) m μi (by exact hA2) (by first | omega | assumption | fail) (by first | omega | decide | fail) (by first | exact hvτ | assumption | fail) (by rw [hμi hg9]; exact (hA3 hg9).1) (by first | exact ht15002_τ | assumption | fail) (by first | exact ht15003_τ | assumption | fail) (by first | exact ht15004_τ | assumption | fail) (by first | exact ht15005_τ | assumption | fail) (by first | exact ht15000_τ | assumption | fail) (by first | exact ht15001_τ | assumption | fail) (by first | exact hcTX_τ | assumption | fail) (by first | exact hcTC_τ | assumption | fail)) lX7_readLine mX7_58 (Nat.lt_of_lt_of_le (by decide) (Nat.le_refl _)) (by decide) sc_15 rfl rfl rfl rfl dX7_read_85 (fun σr eσr => ?_)
            obtain ⟨eσr_a, eσr_b, eσr_c, eσr_d, eσr_e, eσr_f, eσr_g, eσr_h⟩ := eσr
            have eσr_a : vw (vb m) σr = pk0 (ln9 x L (0, ((tx9 x L i).2.1), μi, ((tx9 x L i).2.2.2.1), ((tx9 x L i).2.2.2.2))).1 (ln9 x L (0, ((tx9 x L i).2.1), μi, ((tx9 x L i).2.2.2.1), ((tx9 x L i).2.2.2.2))).2.2.1 μi := eσr_a
            have eσr_b : σr 15000 = (nI ((ln9 x L (0, ((tx9 x L i).2.1), μi, ((tx9 x L i).2.2.2.1), ((tx9 x L i).2.2.2.2))).1)) := eσr_b
            have eσr_c : σr 15001 = (if (ln9 x L (0, ((tx9 x L i).2.1), μi, ((tx9 x L i).2.2.2.1), ((tx9 x L i).2.2.2.2))).1 = 0 then (-1) else nI (txS x L (ln9 x L (0, ((tx9 x L i).2.1), μi, ((tx9 x L i).2.2.2.1), ((tx9 x L i).2.2.2.2))).2.1)) := eσr_c
            have eσr_d : σr 15002 = (nI L) := eσr_d
            have eσr_e : σr 15005 = (nI (if (ln9 x L (0, ((tx9 x L i).2.1), μi, ((tx9 x L i).2.2.2.1), ((tx9 x L i).2.2.2.2))).1 = 0 then (ln9 x L (0, ((tx9 x L i).2.1), μi, ((tx9 x L i).2.2.2.1), ((tx9 x L i).2.2.2.2))).2.1 else txE x L (ln9 x L (0, ((tx9 x L i).2.1), μi, ((tx9 x L i).2.2.2.1), ((tx9 x L i).2.2.2.2))).2.1)) := eσr_e
            have eσr_f : TX 15600 σr L x := eσr_f
            have eσr_g : (ln9 x L (0, ((tx9 x L i).2.1), μi, ((tx9 x L i).2.2.2.1), ((tx9 x L i).2.2.2.2))).1 = 0 → TC σr (ln9 x L (0, ((tx9 x L i).2.1), μi, ((tx9 x L i).2.2.2.1), ((tx9 x L i).2.2.2.2))).2.2.2.1 (ln9 x L (0, ((tx9 x L i).2.1), μi, ((tx9 x L i).2.2.2.1), ((tx9 x L i).2.2.2.2))).2.2.2.2 := eσr_g
            have eσr_h : ∀ a, ((a < vb m ∨ vb m + 464 ≤ a) ∧ (a < 15000 ∨ a = 15002 ∨ a = 15007 ∨ 15013 ≤ a)) → σr a = (τ) a := eσr_h
            have ht15000_σr : σr 15000 = (nI ((ln9 x L (0, ((tx9 x L i).2.1), μi, ((tx9 x L i).2.2.2.1), ((tx9 x L i).2.2.2.2))).1)) := eσr_b
            have ht15001_σr : σr 15001 = (if (ln9 x L (0, ((tx9 x L i).2.1), μi, ((tx9 x L i).2.2.2.1), ((tx9 x L i).2.2.2.2))).1 = 0 then (-1) else nI (txS x L (ln9 x L (0, ((tx9 x L i).2.1), μi, ((tx9 x L i).2.2.2.1), ((tx9 x L i).2.2.2.2))).2.1)) := eσr_c
            have ht15002_σr : σr 15002 = (nI L) := eσr_d
            have ht15005_σr : σr 15005 = (nI (if (ln9 x L (0, ((tx9 x L i).2.1), μi, ((tx9 x L i).2.2.2.1), ((tx9 x L i).2.2.2.2))).1 = 0 then (ln9 x L (0, ((tx9 x L i).2.1), μi, ((tx9 x L i).2.2.2.1), ((tx9 x L i).2.2.2.2))).2.1 else txE x L (ln9 x L (0, ((tx9 x L i).2.1), μi, ((tx9 x L i).2.2.2.1), ((tx9 x L i).2.2.2.2))).2.1)) := eσr_e
            have hcTP_σr : TX 14100 σr t x := by exact TX.fr hcTP_τ (fun a ha hb => eσr_h a (by first | omega | (simp only [vb] at *; omega)))
            have hcFR_σr : ∀ a, ((a < vb m ∨ vb m + 528 ≤ a) ∧ (a < 15000 ∨ (15013 ≤ a ∧ a < 15600) ∨ 16000 ≤ a)) → σr a = σ a := by intro a ha; exact Eq.trans (b := (τ) a) (eσr_h a (by first | omega | (simp only [vb] at *; omega))) (hcFR_τ a ha)
            have hcTX_σr : TX 15600 σr L x := eσr_f
            have hcLC_σr : LC (vb m) σr 0 g := by exact LC.fr hcLC_τ (fun a ha hb => eσr_h a (by first | omega | (simp only [vb] at *; omega)))
            obtain ⟨μr, eμr⟩ : ∃ μr : Nat → Int32, μr = pk0 (ln9 x L (0, ((tx9 x L i).2.1), μi, ((tx9 x L i).2.2.2.1), ((tx9 x L i).2.2.2.2))).1 (ln9 x L (0, ((tx9 x L i).2.1), μi, ((tx9 x L i).2.2.2.1), ((tx9 x L i).2.2.2.2))).2.2.1 μi := ⟨_, rfl⟩
            have hvσr : vw (vb m) σr = μr := by rw [eμr]; exact eσr_a
            rw [hμi hg9] at eσr_b eσr_c eσr_e eσr_g
            have hTC1 := eσr_g
            have hpb : (if (ln9 x L (0, (tx9 x L i).2.1, (tx9 x L i).2.2.1, (tx9 x L i).2.2.2.1, (tx9 x L i).2.2.2.2)).1 = 0 then (ln9 x L (0, (tx9 x L i).2.1, (tx9 x L i).2.2.1, (tx9 x L i).2.2.2.1, (tx9 x L i).2.2.2.2)).2.1 else txE x L (ln9 x L (0, (tx9 x L i).2.1, (tx9 x L i).2.2.1, (tx9 x L i).2.2.2.1, (tx9 x L i).2.2.2.2)).2.1) ≤ L := by have q := tx9_ok (x := x) (L := L) (i + 1); rw [hN] at q; split; exact q.2.1; exact (tx_b (x := x) q.2.1).2.2
            have ht15000_σr : σr 15000 = (nI ((ln9 x L (0, (tx9 x L i).2.1, (tx9 x L i).2.2.1, (tx9 x L i).2.2.2.1, (tx9 x L i).2.2.2.2)).1)) := eσr_b
            have ht15001_σr : σr 15001 = (if (ln9 x L (0, (tx9 x L i).2.1, (tx9 x L i).2.2.1, (tx9 x L i).2.2.2.1, (tx9 x L i).2.2.2.2)).1 = 0 then -1 else nI (txS x L (ln9 x L (0, (tx9 x L i).2.1, (tx9 x L i).2.2.1, (tx9 x L i).2.2.2.1, (tx9 x L i).2.2.2.2)).2.1)) := eσr_c
            have ht15005_σr : σr 15005 = (nI (if (ln9 x L (0, (tx9 x L i).2.1, (tx9 x L i).2.2.1, (tx9 x L i).2.2.2.1, (tx9 x L i).2.2.2.2)).1 = 0 then (ln9 x L (0, (tx9 x L i).2.1, (tx9 x L i).2.2.1, (tx9 x L i).2.2.2.1, (tx9 x L i).2.2.2.2)).2.1 else txE x L (ln9 x L (0, (tx9 x L i).2.1, (tx9 x L i).2.2.1, (tx9 x L i).2.2.2.1, (tx9 x L i).2.2.2.2)).2.1)) := eσr_e
            refine g_aload_n h dX7_read_88 0 rfl ?_
            refine g_cvv (rest := []) h (c_advance hW (if (ln9 x L (0, (tx9 x L i).2.1, (tx9 x L i).2.2.1, (tx9 x L i).2.2.2.1, (tx9 x L i).2.2.2.2)).1 = 0 then (ln9 x L (0, (tx9 x L i).2.1, (tx9 x L i).2.2.1, (tx9 x L i).2.2.2.1, (tx9 x L i).2.2.2.2)).2.1 else txE x L (ln9 x L (0, (tx9 x L i).2.1, (tx9 x L i).2.2.1, (tx9 x L i).2.2.2.1, (tx9 x L i).2.2.2.2)).2.1) L x (by exact hpb) (by first | omega | assumption | fail) (by first | exact ht15002_σr | assumption | fail) (by first | exact ht15005_σr | assumption | fail) (by first | exact hcTX_σr | assumption | fail)) lX7_advance mX7_52 (Nat.lt_of_lt_of_le (by decide) (Nat.le_refl _)) (by decide) sc_15 rfl rfl rfl rfl dX7_read_89 (fun σa eσa => ?_)
            obtain ⟨eσa_a, eσa_b, eσa_c, eσa_d, eσa_e, eσa_f⟩ := eσa
            have eσa_a : σa 15002 = (nI L) := eσa_a
            have eσa_b : σa 15003 = (nI (txK x L (if (ln9 x L (0, (tx9 x L i).2.1, (tx9 x L i).2.2.1, (tx9 x L i).2.2.2.1, (tx9 x L i).2.2.2.2)).1 = 0 then (ln9 x L (0, (tx9 x L i).2.1, (tx9 x L i).2.2.1, (tx9 x L i).2.2.2.1, (tx9 x L i).2.2.2.2)).2.1 else txE x L (ln9 x L (0, (tx9 x L i).2.1, (tx9 x L i).2.2.1, (tx9 x L i).2.2.2.1, (tx9 x L i).2.2.2.2)).2.1))) := eσa_b
            have eσa_c : σa 15004 = (nI (txS x L (if (ln9 x L (0, (tx9 x L i).2.1, (tx9 x L i).2.2.1, (tx9 x L i).2.2.2.1, (tx9 x L i).2.2.2.2)).1 = 0 then (ln9 x L (0, (tx9 x L i).2.1, (tx9 x L i).2.2.1, (tx9 x L i).2.2.2.1, (tx9 x L i).2.2.2.2)).2.1 else txE x L (ln9 x L (0, (tx9 x L i).2.1, (tx9 x L i).2.2.1, (tx9 x L i).2.2.2.1, (tx9 x L i).2.2.2.2)).2.1))) := eσa_c
            have eσa_d : σa 15005 = (nI (txE x L (if (ln9 x L (0, (tx9 x L i).2.1, (tx9 x L i).2.2.1, (tx9 x L i).2.2.2.1, (tx9 x L i).2.2.2.2)).1 = 0 then (ln9 x L (0, (tx9 x L i).2.1, (tx9 x L i).2.2.1, (tx9 x L i).2.2.2.1, (tx9 x L i).2.2.2.2)).2.1 else txE x L (ln9 x L (0, (tx9 x L i).2.1, (tx9 x L i).2.2.1, (tx9 x L i).2.2.2.1, (tx9 x L i).2.2.2.2)).2.1))) := eσa_d
            have eσa_e : TX 15600 σa L x := eσa_e
            have eσa_f : ∀ a, (a < 15003 ∨ 15005 < a) → σa a = σr a := eσa_f
            have ht15000_σa : σa 15000 = (nI ((ln9 x L (0, (tx9 x L i).2.1, (tx9 x L i).2.2.1, (tx9 x L i).2.2.2.1, (tx9 x L i).2.2.2.2)).1)) := by rw [eσa_f _ (by first | omega | (simp only [vb] at *; omega))]; first | exact ht15000_σr | assumption
            have ht15001_σa : σa 15001 = (if (ln9 x L (0, (tx9 x L i).2.1, (tx9 x L i).2.2.1, (tx9 x L i).2.2.2.1, (tx9 x L i).2.2.2.2)).1 = 0 then -1 else nI (txS x L (ln9 x L (0, (tx9 x L i).2.1, (tx9 x L i).2.2.1, (tx9 x L i).2.2.2.1, (tx9 x L i).2.2.2.2)).2.1)) := by rw [eσa_f _ (by first | omega | (simp only [vb] at *; omega))]; first | exact ht15001_σr | assumption
            have ht15002_σa : σa 15002 = (nI L) := eσa_a
            have ht15003_σa : σa 15003 = (nI (txK x L (if (ln9 x L (0, (tx9 x L i).2.1, (tx9 x L i).2.2.1, (tx9 x L i).2.2.2.1, (tx9 x L i).2.2.2.2)).1 = 0 then (ln9 x L (0, (tx9 x L i).2.1, (tx9 x L i).2.2.1, (tx9 x L i).2.2.2.1, (tx9 x L i).2.2.2.2)).2.1 else txE x L (ln9 x L (0, (tx9 x L i).2.1, (tx9 x L i).2.2.1, (tx9 x L i).2.2.2.1, (tx9 x L i).2.2.2.2)).2.1))) := eσa_b
            have ht15004_σa : σa 15004 = (nI (txS x L (if (ln9 x L (0, (tx9 x L i).2.1, (tx9 x L i).2.2.1, (tx9 x L i).2.2.2.1, (tx9 x L i).2.2.2.2)).1 = 0 then (ln9 x L (0, (tx9 x L i).2.1, (tx9 x L i).2.2.1, (tx9 x L i).2.2.2.1, (tx9 x L i).2.2.2.2)).2.1 else txE x L (ln9 x L (0, (tx9 x L i).2.1, (tx9 x L i).2.2.1, (tx9 x L i).2.2.2.1, (tx9 x L i).2.2.2.2)).2.1))) := eσa_c
            have ht15005_σa : σa 15005 = (nI (txE x L (if (ln9 x L (0, (tx9 x L i).2.1, (tx9 x L i).2.2.1, (tx9 x L i).2.2.2.1, (tx9 x L i).2.2.2.2)).1 = 0 then (ln9 x L (0, (tx9 x L i).2.1, (tx9 x L i).2.2.1, (tx9 x L i).2.2.2.1, (tx9 x L i).2.2.2.2)).2.1 else txE x L (ln9 x L (0, (tx9 x L i).2.1, (tx9 x L i).2.2.1, (tx9 x L i).2.2.2.1, (tx9 x L i).2.2.2.2)).2.1))) := eσa_d
            have hcTP_σa : TX 14100 σa t x := by exact TX.fr hcTP_σr (fun a ha hb => eσa_f a (by first | omega | (simp only [vb] at *; omega)))
            have hcFR_σa : ∀ a, ((a < vb m ∨ vb m + 528 ≤ a) ∧ (a < 15000 ∨ (15013 ≤ a ∧ a < 15600) ∨ 16000 ≤ a)) → σa a = σ a := by intro a ha; exact Eq.trans (b := σr a) (eσa_f a (by first | omega | (simp only [vb] at *; omega))) (hcFR_σr a ha)
            have hcTX_σa : TX 15600 σa L x := eσa_e
            have hcLC_σa : LC (vb m) σa 0 g := by exact LC.fr hcLC_σr (fun a ha hb => eσa_f a (by first | omega | (simp only [vb] at *; omega)))
            have hvσa : vw (vb m) σa = μr := by rw [vw_fr (σ := σr) (fun j _ _ => eσa_f _ (by first | omega | (simp only [vb] at *; omega)))]; first | exact hvσr | assumption
            refine g_iincN (b := 1) (L' := [(0, .ref (w.1 15)), (1, .ref (w.1 13)), (2, .int (nI L)), (3, .ref (w.1 (mc m 0))), (4, .int (nI (i + 1)))]) h dX7_read_92 4 rfl rfl (by decide) (by decide) rfl ?_
            refine g_goto h dX7_read_95 ?_
            exact ih61 (i + 1) μr σa (by omega) (by rw [eμr, hμi hg9]; exact pk_z (ln_z (by rw [← hμi hg9]; exact hjI)) (by rw [← hμi hg9]; exact hjI)) (by intro z; rw [hN] at z ⊢; rw [eμr, hμi hg9]; exact if_pos z) (by intro z; rw [hN] at z ⊢; exact TC.fr (hTC1 z) (eσa_f 15006 (by omega))) (by exact hvσa) (by rw [hN]; exact ht15000_σa) (by rw [hN]; exact ht15001_σa) (by exact ht15002_σa) (by rw [hN]; exact ht15003_σa) (by rw [hN]; exact ht15004_σa) (by rw [hN]; exact ht15005_σa) (by first | exact hcTP_σa | assumption | fail | fail) (by first | exact hcFR_σa | assumption | fail | fail) (by first | exact hcTX_σa | assumption | fail | fail) (by first | exact hcLC_σa | assumption | fail | fail) (by omega)
  exact lp61 (_) 0 μc σ_5 (by omega) (by rw [eμc]; exact bg_z) (by intro _; rw [eμc]; rfl) (by intro _; exact hcTC_σ_5) (by exact hvσ_5) (by exact ht15000_σ_5) (by exact ht15001_σ_5) (by exact ht15002_σ_5) (by exact ht15003_σ_5) (by exact ht15004_σ_5) (by exact ht15005_σ_5) (by first | exact hcTP_σ_5 | assumption | fail | fail) (by first | exact hcFR_σ_5 | assumption | fail | fail) (by first | exact hcTX_σ_5 | assumption | fail | fail) (by first | exact hcLC_σ_5 | assumption | fail | fail) (Nat.lt_succ_self _)

def pJ : Nat → Int32
  | 0 => -8
  | k + 1 => nI (8 * k)
theorem pJ_s {k : Nat} : nI (8 * k) + Int32.ofInt (-8) = pJ k := by
  have e : Int32.ofInt (-8) = -(nI 8) := by decide
  rw [e, ← Int32.sub_eq_add_neg]
  cases k with
  | zero => decide
  | succ k =>
    rw [show 8 * (k + 1) = 8 * k + 8 from by omega, ← nI_add]
    show nI (8 * k) + nI 8 - nI 8 = nI (8 * k)
    rw [Int32.add_sub_cancel]

set_option maxRecDepth 100000 in
set_option maxHeartbeats 4000000 in
theorem c_putOnTape {l : Launch} {w : Wd} (hW : Wi w) {σ : Mem} (v : Int32) (t : Nat) (tp : Nat → Nat) (ht9 : t + 4 ≤ 400) (ht14002_σ : σ 14002 = (nI t)) (hcTP_σ : TX 14100 σ t tp) : MC l w qX11_putOnTape 0 [.ref (w.1 12), .int v] σ none (fun σ' => (σ' 14002 = (nI (t + 4))) ∧ (TX 14100 σ' (t + 4) (tpf tp t v)) ∧ (∀ a, ((a < 14100 ∨ 14500 ≤ a) ∧ a ≠ 14002) → σ' a = σ a)) := by
  refine MC.of hW (by decide +kernel) (Nat.le_of_ble_eq_true rfl) (fun X h hQ hnm => ?_)
  have h : Fx X w cX11_putOnTape 3 RX11 0 := h
  have hQ : Qx X w none none (fun σ' => (σ' 14002 = (nI (t + 4))) ∧ (TX 14100 σ' (t + 4) (tpf tp t v)) ∧ (∀ a, ((a < 14100 ∨ 14500 ≤ a) ∧ a ≠ 14002) → σ' a = σ a)) := hQ
  have hcFR_σ : ∀ a, ((a < 14100 ∨ 14500 ≤ a) ∧ a ≠ 14002) → σ a = σ a := fun _ _ => rfl
  show G X w 3 0 [(0, .ref (w.1 12)), (1, .int v)] [] σ
  refine g_bipush h dX11_putOnTape_0 (by decide) ?_
  refine g_istore_n (L' := [(0, .ref (w.1 12)), (1, .int v), (2, .int (nI 24))]) h dX11_putOnTape_2 rfl (by decide) rfl ?_
  have lp3 : ∀ (k9 : Nat) (t1 : Nat) (τ : Mem) (kk : Nat), (kk ≤ 4) → (t1 + kk = t + 4) → (τ 14002 = (nI t1)) → (TX 14100 τ t1 (tpf tp t v)) → (∀ a, ((a < 14100 ∨ 14500 ≤ a) ∧ a ≠ 14002) → τ a = σ a) → kk < k9 → G X w 3 3 [(0, .ref (w.1 12)), (1, .int v), (2, .int (pJ kk))] [] (τ) := by
    intro k9
    induction k9 with
    | zero => intro t1 τ kk hk4 ht1 ht14002_τ hcTP_τ hcFR_τ hm9; exact absurd hm9 (Nat.not_lt_zero _)
    | succ k9 ih3 =>
      intro t1 τ kk hk4 ht1 ht14002_τ hcTP_τ hcFR_τ hm3
      refine g_iload_n h dX11_putOnTape_3 2 rfl ?_
      rcases kk with _ | kq
      ·
        show G X w 3 4 [(0, .ref (w.1 12)), (1, .int v), (2, .int (-8))] [.int (-8)] (τ)
        refine g_if_lt h dX11_putOnTape_4 (fun c4 => ?_) (fun c4 => ?_)
        ·
          exact g_vret h hQ dX11_putOnTape_46 rfl (by exact ⟨(by rw [show t + 4 = t1 from by omega]; exact ht14002_τ), (by rw [show t + 4 = t1 from by omega]; exact hcTP_τ), (by exact hcFR_τ)⟩)
        ·
          exact absurd (by decide) c4
      ·
        show G X w 3 4 [(0, .ref (w.1 12)), (1, .int v), (2, .int (nI (8 * kq)))] [.int (nI (8 * kq))] (τ)
        refine g_ifN_lt h dX11_putOnTape_4 (by omega) ?_
        refine g_aload_n h dX11_putOnTape_7 0 rfl ?_
        refine g_geti h dX11_putOnTape_8 gX11_95 sc_12 rfl ?_
        refine g_top (y := (nI t1)) (by first | exact ht14002_τ | assumption) ?_
        refine g_sipush h dX11_putOnTape_11 (by decide) ?_
        refine g_icmpN_ge h dX11_putOnTape_14 (by omega) (by omega) (fun c14 => ?_) (fun c14 => ?_)
        ·
          exfalso; omega
        ·
          refine g_aload_n h dX11_putOnTape_17 0 rfl ?_
          refine g_getr h dX11_putOnTape_18 gX11_9 sc_12 rfl ?_
          refine g_aload_n h dX11_putOnTape_21 0 rfl ?_
          refine g_geti h dX11_putOnTape_22 gX11_95 sc_12 rfl ?_
          refine g_top (y := (nI t1)) (by first | exact ht14002_τ | assumption) ?_
          refine g_iload_n h dX11_putOnTape_25 1 rfl ?_
          refine g_iload_n h dX11_putOnTape_26 2 rfl ?_
          refine g_ishr h dX11_putOnTape_27  ?_
          refine g_i2b h dX11_putOnTape_28  ?_
          refine g_bast h dX11_putOnTape_29 sc_13 (by omega) ?_
          refine g_nm (fun σw eσw => ?_)
          have eσw : σw = upd (τ) (14100 + t1) (vp_nar .byte ((v >>> ((nI (8 * kq)) &&& 31)).toInt8.toInt32)) := eσw
          have ht14002_σw : σw 14002 = (nI t1) := by rw [eσw, upd_ne (by first | omega | (simp only [vb] at *; omega))]; first | exact ht14002_τ | assumption
          have hcTP_σw : TX 14100 σw t1 (tpf tp t v) := by rw [eσw]; exact TX.fr hcTP_τ (fun a ha hb => upd_ne (by first | omega | (simp only [vb] at *; omega)))
          have hcFR_σw : ∀ a, ((a < 14100 ∨ 14500 ≤ a) ∧ a ≠ 14002) → σw a = σ a := by intro a ha; exact Eq.trans (b := (τ) a) (by rw [eσw, upd_ne (by first | omega | (simp only [vb] at *; omega))]) (hcFR_τ a ha)
          refine g_aload_n h dX11_putOnTape_30 0 rfl ?_
          refine g_dup h dX11_putOnTape_31 rfl ?_
          refine g_geti h dX11_putOnTape_32 gX11_95 sc_12 rfl ?_
          refine g_top (y := (nI t1)) (by first | exact ht14002_σw | assumption) ?_
          refine g_iconst h dX11_putOnTape_35 (by decide) ?_
          refine g_iaddN h dX11_putOnTape_36  ?_
          refine g_puti h dX11_putOnTape_37 pX11_95 sc_12 rfl ?_
          refine g_nm (fun σx eσx => ?_)
          have eσx : σx = upd σw 14002 (nI (t1 + 1)) := eσx
          have ht14002_σx : σx 14002 = (nI (t1 + 1)) := by rw [eσx]; exact upd_eq
          have hcTP_σx : TX 14100 σx t1 (tpf tp t v) := by rw [eσx]; exact TX.fr hcTP_σw (fun a ha hb => upd_ne (by first | omega | (simp only [vb] at *; omega)))
          have hcFR_σx : ∀ a, ((a < 14100 ∨ 14500 ≤ a) ∧ a ≠ 14002) → σx a = σ a := by intro a ha; exact Eq.trans (b := σw a) (by rw [eσx, upd_ne (by first | omega | (simp only [vb] at *; omega))]) (hcFR_σw a ha)
          refine g_iinc (v := (pJ kq)) (L' := [(0, .ref (w.1 12)), (1, .int v), (2, .int (pJ kq))]) h dX11_putOnTape_40 2 rfl rfl (by decide) pJ_s rfl ?_
          refine g_goto h dX11_putOnTape_43 ?_
          exact ih3 (t1 + 1) σx kq (by omega) (by omega) (by first | exact ht14002_σx | assumption | fail | fail) (by exact TX.more hcTP_σx (by rw [tpf_at (kq := kq) (by omega) (by omega)]; exact bcd_lt) (by rw [eσx, upd_ne (by omega), eσw, upd_eq, tpf_at (kq := kq) (by omega) (by omega)]; exact nar_bcd _)) (by first | exact hcFR_σx | assumption | fail | fail) (by omega)
  exact lp3 (_) t σ 4 (by omega) (by omega) (by first | exact ht14002_σ | assumption | fail | fail) (by exact tpf_0 hcTP_σ) (by first | exact hcFR_σ | assumption | fail | fail) (Nat.lt_succ_self _)

set_option maxRecDepth 100000 in
set_option maxHeartbeats 4000000 in
theorem p_feed {l : Launch} {w : Wd} (hW : Wi w) {σ : Mem} (a b c d e : Int32) (t : Nat) (tp : Nat → Nat) (ht9 : t ≤ 400) (ht14002_σ : σ 14002 = (nI t)) (hcTP_σ : TX 14100 σ t tp) : MC l w qX11_feed 1 [.ref (w.1 12), .int a, .int b, .int c, .int d, .int e] σ (some (.int (if 380 < t then -1 else nI (t + 20)))) (fun σ' => (σ' 14002 = (nI (tpN t))) ∧ (TX 14100 σ' (tpN t) (tpT tp t a b c d e)) ∧ (∀ a, ((a < 14100 ∨ 14500 ≤ a) ∧ a ≠ 14002) → σ' a = σ a)) := by
  refine MC.of hW (by decide +kernel) (Nat.le_of_ble_eq_true rfl) (fun X h hQ hnm => ?_)
  have h : Fx X w cX11_feed 6 RX11 1 := h
  have hQ : Qx X w (some .int) (some (.int (if 380 < t then -1 else nI (t + 20)))) (fun σ' => (σ' 14002 = (nI (tpN t))) ∧ (TX 14100 σ' (tpN t) (tpT tp t a b c d e)) ∧ (∀ a, ((a < 14100 ∨ 14500 ≤ a) ∧ a ≠ 14002) → σ' a = σ a)) := hQ
  have hcFR_σ : ∀ a, ((a < 14100 ∨ 14500 ≤ a) ∧ a ≠ 14002) → σ a = σ a := fun _ _ => rfl
  show G X w 6 0 [(0, .ref (w.1 12)), (1, .int a), (2, .int b), (3, .int c), (4, .int d), (5, .int e)] [] σ
  refine g_aload_n h dX11_feed_0 0 rfl ?_
  refine g_geti h dX11_feed_1 gX11_95 sc_12 rfl ?_
  refine g_top (y := (nI t)) (by first | exact ht14002_σ | assumption) ?_
  refine g_sipush h dX11_feed_4 (by decide) ?_
  refine g_icmpN_le h dX11_feed_7 (by omega) (by omega) (fun c7 => ?_) (fun c7 => ?_)
  ·
    refine g_aload_n h dX11_feed_12 0 rfl ?_
    refine g_iload_n h dX11_feed_13 1 rfl ?_
    refine g_cvv (rest := []) h (c_putOnTape hW a t tp (by omega) (by first | exact ht14002_σ | assumption | fail) (by first | exact hcTP_σ | assumption | fail)) lX11_putOnTape mX11_98 (Nat.lt_of_lt_of_le (by decide) (Nat.le_refl _)) (by decide) sc_12 rfl rfl rfl rfl dX11_feed_14 (fun σ_1 eσ_1 => ?_)
    obtain ⟨eσ_1_a, eσ_1_b, eσ_1_c⟩ := eσ_1
    have eσ_1_a : σ_1 14002 = (nI (t + 4)) := eσ_1_a
    have eσ_1_b : TX 14100 σ_1 (t + 4) (tpf tp t a) := eσ_1_b
    have eσ_1_c : ∀ a, ((a < 14100 ∨ 14500 ≤ a) ∧ a ≠ 14002) → σ_1 a = σ a := eσ_1_c
    have ht14002_σ_1 : σ_1 14002 = (nI (t + 4)) := eσ_1_a
    have hcTP_σ_1 : TX 14100 σ_1 (t + 4) (tpf tp t a) := eσ_1_b
    have hcFR_σ_1 : ∀ a, ((a < 14100 ∨ 14500 ≤ a) ∧ a ≠ 14002) → σ_1 a = σ a := by intro a ha; exact Eq.trans (b := σ a) (eσ_1_c a (by first | omega | (simp only [vb] at *; omega))) (hcFR_σ a ha)
    refine g_aload_n h dX11_feed_17 0 rfl ?_
    refine g_iload_n h dX11_feed_18 2 rfl ?_
    refine g_cvv (rest := []) h (c_putOnTape hW b (t + 4) (tpf tp t a) (by omega) (by first | exact ht14002_σ_1 | assumption | fail) (by first | exact hcTP_σ_1 | assumption | fail)) lX11_putOnTape mX11_98 (Nat.lt_of_lt_of_le (by decide) (Nat.le_refl _)) (by decide) sc_12 rfl rfl rfl rfl dX11_feed_19 (fun σ_2 eσ_2 => ?_)
    obtain ⟨eσ_2_a, eσ_2_b, eσ_2_c⟩ := eσ_2
    have eσ_2_a : σ_2 14002 = (nI ((t + 4) + 4)) := eσ_2_a
    have eσ_2_b : TX 14100 σ_2 ((t + 4) + 4) (tpf (tpf tp t a) (t + 4) b) := eσ_2_b
    have eσ_2_c : ∀ a, ((a < 14100 ∨ 14500 ≤ a) ∧ a ≠ 14002) → σ_2 a = σ_1 a := eσ_2_c
    have ht14002_σ_2 : σ_2 14002 = (nI ((t + 4) + 4)) := eσ_2_a
    have hcTP_σ_2 : TX 14100 σ_2 ((t + 4) + 4) (tpf (tpf tp t a) (t + 4) b) := eσ_2_b
    have hcFR_σ_2 : ∀ a, ((a < 14100 ∨ 14500 ≤ a) ∧ a ≠ 14002) → σ_2 a = σ a := by intro a ha; exact Eq.trans (b := σ_1 a) (eσ_2_c a (by first | omega | (simp only [vb] at *; omega))) (hcFR_σ_1 a ha)
    refine g_aload_n h dX11_feed_22 0 rfl ?_
    refine g_iload_n h dX11_feed_23 3 rfl ?_
    refine g_cvv (rest := []) h (c_putOnTape hW c ((t + 4) + 4) (tpf (tpf tp t a) (t + 4) b) (by omega) (by first | exact ht14002_σ_2 | assumption | fail) (by first | exact hcTP_σ_2 | assumption | fail)) lX11_putOnTape mX11_98 (Nat.lt_of_lt_of_le (by decide) (Nat.le_refl _)) (by decide) sc_12 rfl rfl rfl rfl dX11_feed_24 (fun σ_3 eσ_3 => ?_)
    obtain ⟨eσ_3_a, eσ_3_b, eσ_3_c⟩ := eσ_3
    have eσ_3_a : σ_3 14002 = (nI (((t + 4) + 4) + 4)) := eσ_3_a
    have eσ_3_b : TX 14100 σ_3 (((t + 4) + 4) + 4) (tpf (tpf (tpf tp t a) (t + 4) b) ((t + 4) + 4) c) := eσ_3_b
    have eσ_3_c : ∀ a, ((a < 14100 ∨ 14500 ≤ a) ∧ a ≠ 14002) → σ_3 a = σ_2 a := eσ_3_c
    have ht14002_σ_3 : σ_3 14002 = (nI (((t + 4) + 4) + 4)) := eσ_3_a
    have hcTP_σ_3 : TX 14100 σ_3 (((t + 4) + 4) + 4) (tpf (tpf (tpf tp t a) (t + 4) b) ((t + 4) + 4) c) := eσ_3_b
    have hcFR_σ_3 : ∀ a, ((a < 14100 ∨ 14500 ≤ a) ∧ a ≠ 14002) → σ_3 a = σ a := by intro a ha; exact Eq.trans (b := σ_2 a) (eσ_3_c a (by first | omega | (simp only [vb] at *; omega))) (hcFR_σ_2 a ha)
    refine g_aload_n h dX11_feed_27 0 rfl ?_
    refine g_iload h dX11_feed_28 4 rfl ?_
    refine g_cvv (rest := []) h (c_putOnTape hW d (((t + 4) + 4) + 4) (tpf (tpf (tpf tp t a) (t + 4) b) ((t + 4) + 4) c) (by omega) (by first | exact ht14002_σ_3 | assumption | fail) (by first | exact hcTP_σ_3 | assumption | fail)) lX11_putOnTape mX11_98 (Nat.lt_of_lt_of_le (by decide) (Nat.le_refl _)) (by decide) sc_12 rfl rfl rfl rfl dX11_feed_30 (fun σ_4 eσ_4 => ?_)
    obtain ⟨eσ_4_a, eσ_4_b, eσ_4_c⟩ := eσ_4
    have eσ_4_a : σ_4 14002 = (nI ((((t + 4) + 4) + 4) + 4)) := eσ_4_a
    have eσ_4_b : TX 14100 σ_4 ((((t + 4) + 4) + 4) + 4) (tpf (tpf (tpf (tpf tp t a) (t + 4) b) ((t + 4) + 4) c) (((t + 4) + 4) + 4) d) := eσ_4_b
    have eσ_4_c : ∀ a, ((a < 14100 ∨ 14500 ≤ a) ∧ a ≠ 14002) → σ_4 a = σ_3 a := eσ_4_c
    have ht14002_σ_4 : σ_4 14002 = (nI ((((t + 4) + 4) + 4) + 4)) := eσ_4_a
    have hcTP_σ_4 : TX 14100 σ_4 ((((t + 4) + 4) + 4) + 4) (tpf (tpf (tpf (tpf tp t a) (t + 4) b) ((t + 4) + 4) c) (((t + 4) + 4) + 4) d) := eσ_4_b
    have hcFR_σ_4 : ∀ a, ((a < 14100 ∨ 14500 ≤ a) ∧ a ≠ 14002) → σ_4 a = σ a := by intro a ha; exact Eq.trans (b := σ_3 a) (eσ_4_c a (by first | omega | (simp only [vb] at *; omega))) (hcFR_σ_3 a ha)
    refine g_aload_n h dX11_feed_33 0 rfl ?_
    refine g_iload h dX11_feed_34 5 rfl ?_
    refine g_cvv (rest := []) h (c_putOnTape hW e ((((t + 4) + 4) + 4) + 4) (tpf (tpf (tpf (tpf tp t a) (t + 4) b) ((t + 4) + 4) c) (((t + 4) + 4) + 4) d) (by omega) (by first | exact ht14002_σ_4 | assumption | fail) (by first | exact hcTP_σ_4 | assumption | fail)) lX11_putOnTape mX11_98 (Nat.lt_of_lt_of_le (by decide) (Nat.le_refl _)) (by decide) sc_12 rfl rfl rfl rfl dX11_feed_36 (fun σ_5 eσ_5 => ?_)
    obtain ⟨eσ_5_a, eσ_5_b, eσ_5_c⟩ := eσ_5
    have eσ_5_a : σ_5 14002 = (nI (((((t + 4) + 4) + 4) + 4) + 4)) := eσ_5_a
    have eσ_5_b : TX 14100 σ_5 (((((t + 4) + 4) + 4) + 4) + 4) (tpf (tpf (tpf (tpf (tpf tp t a) (t + 4) b) ((t + 4) + 4) c) (((t + 4) + 4) + 4) d) ((((t + 4) + 4) + 4) + 4) e) := eσ_5_b
    have eσ_5_c : ∀ a, ((a < 14100 ∨ 14500 ≤ a) ∧ a ≠ 14002) → σ_5 a = σ_4 a := eσ_5_c
    have ht14002_σ_5 : σ_5 14002 = (nI (((((t + 4) + 4) + 4) + 4) + 4)) := eσ_5_a
    have hcTP_σ_5 : TX 14100 σ_5 (((((t + 4) + 4) + 4) + 4) + 4) (tpf (tpf (tpf (tpf (tpf tp t a) (t + 4) b) ((t + 4) + 4) c) (((t + 4) + 4) + 4) d) ((((t + 4) + 4) + 4) + 4) e) := eσ_5_b
    have hcFR_σ_5 : ∀ a, ((a < 14100 ∨ 14500 ≤ a) ∧ a ≠ 14002) → σ_5 a = σ a := by intro a ha; exact Eq.trans (b := σ_4 a) (eσ_5_c a (by first | omega | (simp only [vb] at *; omega))) (hcFR_σ_4 a ha)
    refine g_aload_n h dX11_feed_39 0 rfl ?_
    refine g_geti h dX11_feed_40 gX11_95 sc_12 rfl ?_
    refine g_top (y := (nI (((((t + 4) + 4) + 4) + 4) + 4))) (by first | exact ht14002_σ_5 | assumption) ?_
    exact g_iret h hQ dX11_feed_43 (congrArg (fun z => some (Value.int z)) (show (if 380 < t then -1 else nI (t + 20)) = (nI (((((t + 4) + 4) + 4) + 4) + 4)) by first | exact if_pos (by omega) | exact (if_neg (by omega)).trans rfl | fail)) (by exact ⟨(by first | (rw [show tpN t = t from if_pos (by omega)]; exact ht14002_σ_5) | (rw [show tpN t = t + 4 + 4 + 4 + 4 + 4 from if_neg (by omega)]; exact ht14002_σ_5) | fail), (by first | (rw [show tpN t = t from if_pos (by omega), show tpT tp t a b c d e = tp from if_pos (by omega)]; exact hcTP_σ_5) | (rw [show tpN t = t + 4 + 4 + 4 + 4 + 4 from if_neg (by omega), show tpT tp t a b c d e = tp5 tp t a b c d e from if_neg (by omega)]; exact hcTP_σ_5) | fail), (by exact hcFR_σ_5)⟩)
  ·
    refine g_iconstv h dX11_feed_10 (v := (-1)) (by decide) ?_
    exact g_iret h hQ dX11_feed_11 (congrArg (fun z => some (Value.int z)) (show (if 380 < t then -1 else nI (t + 20)) = (-1) by first | exact if_pos (by omega) | exact (if_neg (by omega)).trans rfl | fail)) (by exact ⟨(by first | (rw [show tpN t = t from if_pos (by omega)]; exact ht14002_σ) | (rw [show tpN t = t + 4 + 4 + 4 + 4 + 4 from if_neg (by omega)]; exact ht14002_σ) | fail), (by first | (rw [show tpN t = t from if_pos (by omega), show tpT tp t a b c d e = tp from if_pos (by omega)]; exact hcTP_σ) | (rw [show tpN t = t + 4 + 4 + 4 + 4 + 4 from if_neg (by omega), show tpT tp t a b c d e = tp5 tp t a b c d e from if_neg (by omega)]; exact hcTP_σ) | fail), (by exact hcFR_σ)⟩)

theorem fo_1 {a b : Nat} (h : a = 1) : fo a b = 1 := by subst h; rfl
theorem rg_1 {x a b : Int32} (h : rg x a b ≠ 0) : rg x a b = 1 := by
  unfold rg at h ⊢
  split
  · rename_i c
    rw [if_pos c] at h
    exact absurd rfl h
  · rfl

set_option maxRecDepth 100000 in
set_option maxHeartbeats 4000000 in
theorem p_load {l : Launch} {w : Wd} (hW : Wi w) {σ : Mem} (n : Int32) (F : PS) (t nt : Nat) (tp : Nat → Nat) (fk fp : Int32) (g : Nat → Nat → Int32) (μ μ1 : Nat → Int32) (hv : vw (vb 0) σ = μ) (hI : MI μ) (hw : vw (vb 1) σ = μ1) (hjz : jz μ) (hjz1 : jz μ1) (ht9 : t ≤ 400) (hFe : F = tx9 tp (toN n) 400) (ht14002_σ : σ 14002 = (nI t)) (ht14003_σ : σ 14003 = fk) (ht14004_σ : σ 14004 = fp) (hcTP_σ : TX 14100 σ t tp) (hcLQ_σ : LC (vb 0) σ nt g) : MC l w qX11_load 8 [.ref (w.1 12), .int n] σ (some (.int (an (fo (rg n (nI 0) (nI t)) (if F.1 = 0 then 0 else 9)) (nI (nN F.2.2.1))))) (fun σ' => (vw (vb 0) σ' = pk0 (fo (rg n (nI 0) (nI t)) (if F.1 = 0 then 0 else 9)) F.2.2.1 μ) ∧ (σ' 14000 = (nI (fo (rg n (nI 0) (nI t)) (if F.1 = 0 then 0 else 9)))) ∧ (σ' 14002 = (nI (if rg n (nI 0) (nI t) = 0 then 0 else t))) ∧ (σ' 14003 = (if rg n (nI 0) (nI t) = 0 then nI F.1 else fk)) ∧ (σ' 14004 = (if rg n (nI 0) (nI t) = 0 then (if F.1 = 0 then -1 else nI (txS tp (toN n) F.2.1)) else fp)) ∧ (TX 14100 σ' (if rg n (nI 0) (nI t) = 0 then 0 else t) tp) ∧ (LC (vb 0) σ' (if fo (rg n (nI 0) (nI t)) (if F.1 = 0 then 0 else 9) = 0 then 0 else nt) g) ∧ (∃ ν, vw (vb 1) σ' = ν ∧ jz ν) ∧ (∀ a, ((a < 10000 ∨ 11056 ≤ a) ∧ a < 14900 ∧ a ≠ 14000 ∧ a ≠ 14002 ∧ a ≠ 14003 ∧ a ≠ 14004) → σ' a = σ a)) := by
  refine MC.of hW (by decide +kernel) (Nat.le_of_ble_eq_true rfl) (fun X h hQ hnm => ?_)
  have h : Fx X w cX11_load 2 RX11 8 := h
  have hQ : Qx X w (some .int) (some (.int (an (fo (rg n (nI 0) (nI t)) (if F.1 = 0 then 0 else 9)) (nI (nN F.2.2.1))))) (fun σ' => (vw (vb 0) σ' = pk0 (fo (rg n (nI 0) (nI t)) (if F.1 = 0 then 0 else 9)) F.2.2.1 μ) ∧ (σ' 14000 = (nI (fo (rg n (nI 0) (nI t)) (if F.1 = 0 then 0 else 9)))) ∧ (σ' 14002 = (nI (if rg n (nI 0) (nI t) = 0 then 0 else t))) ∧ (σ' 14003 = (if rg n (nI 0) (nI t) = 0 then nI F.1 else fk)) ∧ (σ' 14004 = (if rg n (nI 0) (nI t) = 0 then (if F.1 = 0 then -1 else nI (txS tp (toN n) F.2.1)) else fp)) ∧ (TX 14100 σ' (if rg n (nI 0) (nI t) = 0 then 0 else t) tp) ∧ (LC (vb 0) σ' (if fo (rg n (nI 0) (nI t)) (if F.1 = 0 then 0 else 9) = 0 then 0 else nt) g) ∧ (∃ ν, vw (vb 1) σ' = ν ∧ jz ν) ∧ (∀ a, ((a < 10000 ∨ 11056 ≤ a) ∧ a < 14900 ∧ a ≠ 14000 ∧ a ≠ 14002 ∧ a ≠ 14003 ∧ a ≠ 14004) → σ' a = σ a)) := hQ
  have hN8 := mi_8 hI
  have hvb0 : vb 0 = 10000 := rfl
  have hvb1 : vb 1 = 10528 := rfl
  have hMI : F.1 = 0 → MI F.2.2.1 := by rw [hFe]; exact fun z => ((tx9_ok (x := tp) (L := toN n) 400).2.2 z).1
  have hF10 : F.1 < 10 := by rw [hFe]; exact (tx9_ok (x := tp) (L := toN n) 400).1
  have hcFR_σ : ∀ a, ((a < 10000 ∨ 11056 ≤ a) ∧ a < 14900 ∧ a ≠ 14000 ∧ a ≠ 14002 ∧ a ≠ 14003 ∧ a ≠ 14004) → σ a = σ a := fun _ _ => rfl
  show G X w 2 0 [(0, .ref (w.1 12)), (1, .int n)] [] σ
  refine g_aload_n h dX11_load_0 0 rfl ?_
  refine g_iload_n h dX11_load_1 1 rfl ?_
  refine g_iconst h dX11_load_2 (by decide) ?_
  refine g_aload_n h dX11_load_3 0 rfl ?_
  refine g_geti h dX11_load_4 gX11_95 sc_12 rfl ?_
  refine g_top (y := (nI t)) (by first | exact ht14002_σ | assumption) ?_
  refine g_cspi (rest := [.ref (w.1 12)]) h (c_rg hW n (nI 0) (nI t) ) lX11_rangeStatus mX11_102 (Nat.lt_of_lt_of_le (by decide) (Nat.le_refl _)) (by decide) rfl rfl rfl dX11_load_7 ?_
  refine g_cvi (rest := []) h (c_fails hW (rg n (nI 0) (nI t)) (by repeat (first | omega | exact rg_lt | exact ns_lt | exact ps_lt | exact gst_lt | exact ofS_lt | exact if_lt (by decide) (by decide) | apply fo_lt))) lX11_fails mX11_106 (Nat.lt_of_lt_of_le (by decide) (Nat.le_refl _)) (by decide) sc_12 rfl rfl rfl rfl dX11_load_10 (fun σ_1 eσ_1 => ?_)
  obtain ⟨eσ_1_a, eσ_1_b⟩ := eσ_1
  have eσ_1_a : σ_1 14000 = (nI (rg n (nI 0) (nI t))) := eσ_1_a
  have eσ_1_b : ∀ a, (a ≠ 14000) → σ_1 a = σ a := eσ_1_b
  have ht14002_σ_1 : σ_1 14002 = (nI t) := by rw [eσ_1_b _ (by first | omega | (simp only [vb] at *; omega))]; first | exact ht14002_σ | assumption
  have ht14003_σ_1 : σ_1 14003 = fk := by rw [eσ_1_b _ (by first | omega | (simp only [vb] at *; omega))]; first | exact ht14003_σ | assumption
  have ht14004_σ_1 : σ_1 14004 = fp := by rw [eσ_1_b _ (by first | omega | (simp only [vb] at *; omega))]; first | exact ht14004_σ | assumption
  have ht14000_σ_1 : σ_1 14000 = (nI (rg n (nI 0) (nI t))) := eσ_1_a
  have hcTP_σ_1 : TX 14100 σ_1 t tp := by exact TX.fr hcTP_σ (fun a ha hb => eσ_1_b a (by first | omega | (simp only [vb] at *; omega)))
  have hcLQ_σ_1 : LC (vb 0) σ_1 nt g := by exact LC.fr hcLQ_σ (fun a ha hb => eσ_1_b a (by first | omega | (simp only [vb] at *; omega)))
  have hcFR_σ_1 : ∀ a, ((a < 10000 ∨ 11056 ≤ a) ∧ a < 14900 ∧ a ≠ 14000 ∧ a ≠ 14002 ∧ a ≠ 14003 ∧ a ≠ 14004) → σ_1 a = σ a := by intro a ha; exact Eq.trans (b := σ a) (eσ_1_b a (by first | omega | (simp only [vb] at *; omega))) (hcFR_σ a ha)
  have hvσ_1 : vw (vb 0) σ_1 = μ := by rw [vw_fr (σ := σ) (fun j _ _ => eσ_1_b _ (by first | omega | (simp only [vb] at *; omega)))]; first | exact hv | assumption
  have hwσ_1 : vw (vb 1) σ_1 = μ1 := by rw [vw_fr (σ := σ) (fun j _ _ => eσ_1_b _ (by first | omega | (simp only [vb] at *; omega)))]; first | exact hw | assumption
  refine g_ifB_eq h dX11_load_13 (fun c13 => ?_) (fun c13 => ?_)
  ·
    have hs1 : rg n (nI 0) (nI t) = 0 := nb0 c13
    obtain ⟨en, hn9⟩ := rg_N (by omega) hs1
    rw [en]
    show G X w 2 18 [(0, .ref (w.1 12)), (1, .int (nI (toN n)))] [] σ_1
    refine g_aload_n h dX11_load_18 0 rfl ?_
    refine g_getr h dX11_load_19 gX11_37 sc_12 rfl ?_
    refine g_aload_n h dX11_load_22 0 rfl ?_
    refine g_getr h dX11_load_23 gX11_9 sc_12 rfl ?_
    refine g_iload_n h dX11_load_26 1 rfl ?_
    refine g_aload_n h dX11_load_27 0 rfl ?_
    refine g_getr h dX11_load_28 gX11_27 sc_12 rfl ?_
    refine g_cvv (rest := []) h (c_read hW F (toN n) t tp g 1 μ1 (by first | omega | decide | fail) (by first | exact hvσ_1 | assumption | fail) (by assumption) (by first | omega | assumption | fail) (by first | omega | assumption | fail) (by assumption) (by first | exact hcTP_σ_1 | assumption | fail)) lX7_read mX11_110 (Nat.lt_of_lt_of_le (by decide) (Nat.le_refl _)) (by decide) sc_15 rfl rfl rfl rfl dX11_load_31 (fun σr eσr => ?_)
    obtain ⟨eσr_a, eσr_b, eσr_c, eσr_d, eσr_e, eσr_f⟩ := eσr
    have eσr_a : σr 15000 = (nI F.1) := eσr_a
    have eσr_b : σr 15001 = (if F.1 = 0 then -1 else nI (txS tp (toN n) F.2.1)) := eσr_b
    have eσr_c : TX 14100 σr t tp := eσr_c
    have eσr_d : LC (vb 1) σr 0 g := eσr_d
    have eσr_e : ∃ ν, vw (vb 1) σr = ν ∧ jz ν ∧ (F.1 = 0 → ν = F.2.2.1) := eσr_e
    have eσr_f : ∀ a, ((a < vb 1 ∨ vb 1 + 528 ≤ a) ∧ (a < 15000 ∨ (15013 ≤ a ∧ a < 15600) ∨ 16000 ≤ a)) → σr a = σ_1 a := eσr_f
    have ht14002_σr : σr 14002 = (nI t) := by rw [eσr_f _ (by first | omega | (simp only [vb] at *; omega))]; first | exact ht14002_σ_1 | assumption
    have ht14003_σr : σr 14003 = fk := by rw [eσr_f _ (by first | omega | (simp only [vb] at *; omega))]; first | exact ht14003_σ_1 | assumption
    have ht14004_σr : σr 14004 = fp := by rw [eσr_f _ (by first | omega | (simp only [vb] at *; omega))]; first | exact ht14004_σ_1 | assumption
    have ht14000_σr : σr 14000 = (nI (rg n (nI 0) (nI t))) := by rw [eσr_f _ (by first | omega | (simp only [vb] at *; omega))]; first | exact ht14000_σ_1 | assumption
    have ht15000_σr : σr 15000 = (nI F.1) := eσr_a
    have ht15001_σr : σr 15001 = (if F.1 = 0 then -1 else nI (txS tp (toN n) F.2.1)) := eσr_b
    have hcTP_σr : TX 14100 σr t tp := eσr_c
    have hcLQ_σr : LC (vb 0) σr nt g := by exact LC.fr hcLQ_σ_1 (fun a ha hb => eσr_f a (by first | omega | (simp only [vb] at *; omega)))
    have hcFR_σr : ∀ a, ((a < 10000 ∨ 11056 ≤ a) ∧ a < 14900 ∧ a ≠ 14000 ∧ a ≠ 14002 ∧ a ≠ 14003 ∧ a ≠ 14004) → σr a = σ a := by intro a ha; exact Eq.trans (b := σ_1 a) (eσr_f a (by first | omega | (simp only [vb] at *; omega))) (hcFR_σ_1 a ha)
    have hcLD_σr : LC (vb 1) σr 0 g := eσr_d
    have hvσr : vw (vb 0) σr = μ := by rw [vw_fr (σ := σ_1) (fun j _ _ => eσr_f _ (by first | omega | (simp only [vb] at *; omega)))]; first | exact hvσ_1 | assumption
    obtain ⟨ν, hν1, hν2, hν3⟩ := eσr_e
    have hwσr : vw (vb 1) σr = ν := hν1
    refine g_aload_n h dX11_load_34 0 rfl ?_
    refine g_iconst h dX11_load_35 (by decide) ?_
    refine g_puti h dX11_load_36 pX11_95 sc_12 rfl ?_
    refine g_nm (fun σ_2 eσ_2 => ?_)
    have eσ_2 : σ_2 = upd σr 14002 (nI 0) := eσ_2
    have ht14002_σ_2 : σ_2 14002 = (nI 0) := by rw [eσ_2]; exact upd_eq
    have ht14003_σ_2 : σ_2 14003 = fk := by rw [eσ_2, upd_ne (by first | omega | (simp only [vb] at *; omega))]; first | exact ht14003_σr | assumption
    have ht14004_σ_2 : σ_2 14004 = fp := by rw [eσ_2, upd_ne (by first | omega | (simp only [vb] at *; omega))]; first | exact ht14004_σr | assumption
    have ht14000_σ_2 : σ_2 14000 = (nI (rg n (nI 0) (nI t))) := by rw [eσ_2, upd_ne (by first | omega | (simp only [vb] at *; omega))]; first | exact ht14000_σr | assumption
    have ht15000_σ_2 : σ_2 15000 = (nI F.1) := by rw [eσ_2, upd_ne (by first | omega | (simp only [vb] at *; omega))]; first | exact ht15000_σr | assumption
    have ht15001_σ_2 : σ_2 15001 = (if F.1 = 0 then -1 else nI (txS tp (toN n) F.2.1)) := by rw [eσ_2, upd_ne (by first | omega | (simp only [vb] at *; omega))]; first | exact ht15001_σr | assumption
    have hcTP_σ_2 : TX 14100 σ_2 t tp := by rw [eσ_2]; exact TX.fr hcTP_σr (fun a ha hb => upd_ne (by first | omega | (simp only [vb] at *; omega)))
    have hcLQ_σ_2 : LC (vb 0) σ_2 nt g := by rw [eσ_2]; exact LC.fr hcLQ_σr (fun a ha hb => upd_ne (by first | omega | (simp only [vb] at *; omega)))
    have hcFR_σ_2 : ∀ a, ((a < 10000 ∨ 11056 ≤ a) ∧ a < 14900 ∧ a ≠ 14000 ∧ a ≠ 14002 ∧ a ≠ 14003 ∧ a ≠ 14004) → σ_2 a = σ a := by intro a ha; exact Eq.trans (b := σr a) (by rw [eσ_2, upd_ne (by first | omega | (simp only [vb] at *; omega))]) (hcFR_σr a ha)
    have hcLD_σ_2 : LC (vb 1) σ_2 0 g := by rw [eσ_2]; exact LC.fr hcLD_σr (fun a ha hb => upd_ne (by first | omega | (simp only [vb] at *; omega)))
    have hvσ_2 : vw (vb 0) σ_2 = μ := by rw [eσ_2, vw_out (by first | omega | (simp only [vb] at *; omega))]; first | exact hvσr | assumption
    have hwσ_2 : vw (vb 1) σ_2 = ν := by rw [eσ_2, vw_out (by first | omega | (simp only [vb] at *; omega))]; first | exact hwσr | assumption
    refine g_aload_n h dX11_load_39 0 rfl ?_
    refine g_aload_n h dX11_load_40 0 rfl ?_
    refine g_getr h dX11_load_41 gX11_37 sc_12 rfl ?_
    refine g_geti h dX11_load_44 gX11_114 sc_15 rfl ?_
    refine g_top (y := (nI F.1)) (by first | exact ht15000_σ_2 | assumption) ?_
    refine g_puti h dX11_load_47 pX11_13 sc_12 rfl ?_
    refine g_nm (fun σ_3 eσ_3 => ?_)
    have eσ_3 : σ_3 = upd σ_2 14003 (nI F.1) := eσ_3
    have ht14002_σ_3 : σ_3 14002 = (nI 0) := by rw [eσ_3, upd_ne (by first | omega | (simp only [vb] at *; omega))]; first | exact ht14002_σ_2 | assumption
    have ht14003_σ_3 : σ_3 14003 = (nI F.1) := by rw [eσ_3]; exact upd_eq
    have ht14004_σ_3 : σ_3 14004 = fp := by rw [eσ_3, upd_ne (by first | omega | (simp only [vb] at *; omega))]; first | exact ht14004_σ_2 | assumption
    have ht14000_σ_3 : σ_3 14000 = (nI (rg n (nI 0) (nI t))) := by rw [eσ_3, upd_ne (by first | omega | (simp only [vb] at *; omega))]; first | exact ht14000_σ_2 | assumption
    have ht15000_σ_3 : σ_3 15000 = (nI F.1) := by rw [eσ_3, upd_ne (by first | omega | (simp only [vb] at *; omega))]; first | exact ht15000_σ_2 | assumption
    have ht15001_σ_3 : σ_3 15001 = (if F.1 = 0 then -1 else nI (txS tp (toN n) F.2.1)) := by rw [eσ_3, upd_ne (by first | omega | (simp only [vb] at *; omega))]; first | exact ht15001_σ_2 | assumption
    have hcTP_σ_3 : TX 14100 σ_3 t tp := by rw [eσ_3]; exact TX.fr hcTP_σ_2 (fun a ha hb => upd_ne (by first | omega | (simp only [vb] at *; omega)))
    have hcLQ_σ_3 : LC (vb 0) σ_3 nt g := by rw [eσ_3]; exact LC.fr hcLQ_σ_2 (fun a ha hb => upd_ne (by first | omega | (simp only [vb] at *; omega)))
    have hcFR_σ_3 : ∀ a, ((a < 10000 ∨ 11056 ≤ a) ∧ a < 14900 ∧ a ≠ 14000 ∧ a ≠ 14002 ∧ a ≠ 14003 ∧ a ≠ 14004) → σ_3 a = σ a := by intro a ha; exact Eq.trans (b := σ_2 a) (by rw [eσ_3, upd_ne (by first | omega | (simp only [vb] at *; omega))]) (hcFR_σ_2 a ha)
    have hcLD_σ_3 : LC (vb 1) σ_3 0 g := by rw [eσ_3]; exact LC.fr hcLD_σ_2 (fun a ha hb => upd_ne (by first | omega | (simp only [vb] at *; omega)))
    have hvσ_3 : vw (vb 0) σ_3 = μ := by rw [eσ_3, vw_out (by first | omega | (simp only [vb] at *; omega))]; first | exact hvσ_2 | assumption
    have hwσ_3 : vw (vb 1) σ_3 = ν := by rw [eσ_3, vw_out (by first | omega | (simp only [vb] at *; omega))]; first | exact hwσ_2 | assumption
    refine g_aload_n h dX11_load_50 0 rfl ?_
    refine g_aload_n h dX11_load_51 0 rfl ?_
    refine g_getr h dX11_load_52 gX11_37 sc_12 rfl ?_
    refine g_geti h dX11_load_55 gX11_115 sc_15 rfl ?_
    refine g_top (y := (if F.1 = 0 then -1 else nI (txS tp (toN n) F.2.1))) (by first | exact ht15001_σ_3 | assumption) ?_
    refine g_puti h dX11_load_58 pX11_17 sc_12 rfl ?_
    refine g_nm (fun σ_4 eσ_4 => ?_)
    have eσ_4 : σ_4 = upd σ_3 14004 (if F.1 = 0 then -1 else nI (txS tp (toN n) F.2.1)) := eσ_4
    have ht14002_σ_4 : σ_4 14002 = (nI 0) := by rw [eσ_4, upd_ne (by first | omega | (simp only [vb] at *; omega))]; first | exact ht14002_σ_3 | assumption
    have ht14003_σ_4 : σ_4 14003 = (nI F.1) := by rw [eσ_4, upd_ne (by first | omega | (simp only [vb] at *; omega))]; first | exact ht14003_σ_3 | assumption
    have ht14004_σ_4 : σ_4 14004 = (if F.1 = 0 then -1 else nI (txS tp (toN n) F.2.1)) := by rw [eσ_4]; exact upd_eq
    have ht14000_σ_4 : σ_4 14000 = (nI (rg n (nI 0) (nI t))) := by rw [eσ_4, upd_ne (by first | omega | (simp only [vb] at *; omega))]; first | exact ht14000_σ_3 | assumption
    have ht15000_σ_4 : σ_4 15000 = (nI F.1) := by rw [eσ_4, upd_ne (by first | omega | (simp only [vb] at *; omega))]; first | exact ht15000_σ_3 | assumption
    have ht15001_σ_4 : σ_4 15001 = (if F.1 = 0 then -1 else nI (txS tp (toN n) F.2.1)) := by rw [eσ_4, upd_ne (by first | omega | (simp only [vb] at *; omega))]; first | exact ht15001_σ_3 | assumption
    have hcTP_σ_4 : TX 14100 σ_4 t tp := by rw [eσ_4]; exact TX.fr hcTP_σ_3 (fun a ha hb => upd_ne (by first | omega | (simp only [vb] at *; omega)))
    have hcLQ_σ_4 : LC (vb 0) σ_4 nt g := by rw [eσ_4]; exact LC.fr hcLQ_σ_3 (fun a ha hb => upd_ne (by first | omega | (simp only [vb] at *; omega)))
    have hcFR_σ_4 : ∀ a, ((a < 10000 ∨ 11056 ≤ a) ∧ a < 14900 ∧ a ≠ 14000 ∧ a ≠ 14002 ∧ a ≠ 14003 ∧ a ≠ 14004) → σ_4 a = σ a := by intro a ha; exact Eq.trans (b := σ_3 a) (by rw [eσ_4, upd_ne (by first | omega | (simp only [vb] at *; omega))]) (hcFR_σ_3 a ha)
    have hcLD_σ_4 : LC (vb 1) σ_4 0 g := by rw [eσ_4]; exact LC.fr hcLD_σ_3 (fun a ha hb => upd_ne (by first | omega | (simp only [vb] at *; omega)))
    have hvσ_4 : vw (vb 0) σ_4 = μ := by rw [eσ_4, vw_out (by first | omega | (simp only [vb] at *; omega))]; first | exact hvσ_3 | assumption
    have hwσ_4 : vw (vb 1) σ_4 = ν := by rw [eσ_4, vw_out (by first | omega | (simp only [vb] at *; omega))]; first | exact hwσ_3 | assumption
    refine g_aload_n h dX11_load_61 0 rfl ?_
    refine g_aload_n h dX11_load_62 0 rfl ?_
    refine g_geti h dX11_load_63 gX11_13 sc_12 rfl ?_
    refine g_top (y := (nI F.1)) (by first | exact ht14003_σ_4 | assumption) ?_
    refine g_ifN_eq h dX11_load_66 (by omega) (fun c66 => ?_) (fun c66 => ?_)
    ·
      have hF9 : F.1 = 0 := c66
      refine g_iconst h dX11_load_74 (by decide) ?_
      refine g_cvi (rest := []) h (c_fails hW 0 (by repeat (first | omega | exact rg_lt | exact ns_lt | exact ps_lt | exact gst_lt | exact ofS_lt | exact if_lt (by decide) (by decide) | apply fo_lt))) lX11_fails mX11_106 (Nat.lt_of_lt_of_le (by decide) (Nat.le_refl _)) (by decide) sc_12 rfl rfl rfl rfl dX11_load_75 (fun σ_5 eσ_5 => ?_)
      obtain ⟨eσ_5_a, eσ_5_b⟩ := eσ_5
      have eσ_5_a : σ_5 14000 = (nI 0) := eσ_5_a
      have eσ_5_b : ∀ a, (a ≠ 14000) → σ_5 a = σ_4 a := eσ_5_b
      have ht14002_σ_5 : σ_5 14002 = (nI 0) := by rw [eσ_5_b _ (by first | omega | (simp only [vb] at *; omega))]; first | exact ht14002_σ_4 | assumption
      have ht14003_σ_5 : σ_5 14003 = (nI F.1) := by rw [eσ_5_b _ (by first | omega | (simp only [vb] at *; omega))]; first | exact ht14003_σ_4 | assumption
      have ht14004_σ_5 : σ_5 14004 = (if F.1 = 0 then -1 else nI (txS tp (toN n) F.2.1)) := by rw [eσ_5_b _ (by first | omega | (simp only [vb] at *; omega))]; first | exact ht14004_σ_4 | assumption
      have ht15000_σ_5 : σ_5 15000 = (nI F.1) := by rw [eσ_5_b _ (by first | omega | (simp only [vb] at *; omega))]; first | exact ht15000_σ_4 | assumption
      have ht15001_σ_5 : σ_5 15001 = (if F.1 = 0 then -1 else nI (txS tp (toN n) F.2.1)) := by rw [eσ_5_b _ (by first | omega | (simp only [vb] at *; omega))]; first | exact ht15001_σ_4 | assumption
      have ht14000_σ_5 : σ_5 14000 = (nI 0) := eσ_5_a
      have hcTP_σ_5 : TX 14100 σ_5 t tp := by exact TX.fr hcTP_σ_4 (fun a ha hb => eσ_5_b a (by first | omega | (simp only [vb] at *; omega)))
      have hcLQ_σ_5 : LC (vb 0) σ_5 nt g := by exact LC.fr hcLQ_σ_4 (fun a ha hb => eσ_5_b a (by first | omega | (simp only [vb] at *; omega)))
      have hcFR_σ_5 : ∀ a, ((a < 10000 ∨ 11056 ≤ a) ∧ a < 14900 ∧ a ≠ 14000 ∧ a ≠ 14002 ∧ a ≠ 14003 ∧ a ≠ 14004) → σ_5 a = σ a := by intro a ha; exact Eq.trans (b := σ_4 a) (eσ_5_b a (by first | omega | (simp only [vb] at *; omega))) (hcFR_σ_4 a ha)
      have hcLD_σ_5 : LC (vb 1) σ_5 0 g := by exact LC.fr hcLD_σ_4 (fun a ha hb => eσ_5_b a (by first | omega | (simp only [vb] at *; omega)))
      have hvσ_5 : vw (vb 0) σ_5 = μ := by rw [vw_fr (σ := σ_4) (fun j _ _ => eσ_5_b _ (by first | omega | (simp only [vb] at *; omega)))]; first | exact hvσ_4 | assumption
      have hwσ_5 : vw (vb 1) σ_5 = ν := by rw [vw_fr (σ := σ_4) (fun j _ _ => eσ_5_b _ (by first | omega | (simp only [vb] at *; omega)))]; first | exact hwσ_4 | assumption
      refine g_top (y := nI 0) rfl ?_
      refine g_ifN_eq h dX11_load_78 (by decide) (fun c78 => ?_) (fun c78 => absurd c78 (by decide))
      refine g_aload_n h dX11_load_83 0 rfl ?_
      refine g_getr h dX11_load_84 gX11_23 sc_12 rfl ?_
      refine g_aload_n h dX11_load_87 0 rfl ?_
      refine g_getr h dX11_load_88 gX11_27 sc_12 rfl ?_
      refine g_cvv (rest := []) h (c_become hW 0 g 0 1 μ (ν) (by first | omega | decide | fail) (by first | omega | decide | fail) (by first | omega | decide | fail) (by first | exact hvσ_5 | assumption | fail) (by first | exact w | assumption | fail) (by intro a h1 h2; rw [hjz a h1 h2]; exact (hν2 a h1 h2).symm) (by first | exact hcLD_σ_5 | assumption | fail)) lX5_become mX11_116 (Nat.lt_of_lt_of_le (by decide) (Nat.le_refl _)) (by decide) (sM_0 (m := 0) (by decide)) rfl rfl rfl rfl dX11_load_91 (fun σ_6 eσ_6 => ?_)
      obtain ⟨eσ_6_a, eσ_6_b, eσ_6_c, eσ_6_d⟩ := eσ_6
      have eσ_6_a : vw (vb 0) σ_6 = (ν) := eσ_6_a
      have eσ_6_b : LC (vb 1) σ_6 0 g := eσ_6_b
      have eσ_6_c : LC (vb 0) σ_6 0 g := eσ_6_c
      have eσ_6_d : ∀ a, (a < vb 0 ∨ vb 0 + 528 ≤ a) → σ_6 a = σ_5 a := eσ_6_d
      have ht14002_σ_6 : σ_6 14002 = (nI 0) := by rw [eσ_6_d _ (by first | omega | (simp only [vb] at *; omega))]; first | exact ht14002_σ_5 | assumption
      have ht14003_σ_6 : σ_6 14003 = (nI F.1) := by rw [eσ_6_d _ (by first | omega | (simp only [vb] at *; omega))]; first | exact ht14003_σ_5 | assumption
      have ht14004_σ_6 : σ_6 14004 = (if F.1 = 0 then -1 else nI (txS tp (toN n) F.2.1)) := by rw [eσ_6_d _ (by first | omega | (simp only [vb] at *; omega))]; first | exact ht14004_σ_5 | assumption
      have ht15000_σ_6 : σ_6 15000 = (nI F.1) := by rw [eσ_6_d _ (by first | omega | (simp only [vb] at *; omega))]; first | exact ht15000_σ_5 | assumption
      have ht15001_σ_6 : σ_6 15001 = (if F.1 = 0 then -1 else nI (txS tp (toN n) F.2.1)) := by rw [eσ_6_d _ (by first | omega | (simp only [vb] at *; omega))]; first | exact ht15001_σ_5 | assumption
      have ht14000_σ_6 : σ_6 14000 = (nI 0) := by rw [eσ_6_d _ (by first | omega | (simp only [vb] at *; omega))]; first | exact ht14000_σ_5 | assumption
      have hcTP_σ_6 : TX 14100 σ_6 t tp := by exact TX.fr hcTP_σ_5 (fun a ha hb => eσ_6_d a (by first | omega | (simp only [vb] at *; omega)))
      have hcFR_σ_6 : ∀ a, ((a < 10000 ∨ 11056 ≤ a) ∧ a < 14900 ∧ a ≠ 14000 ∧ a ≠ 14002 ∧ a ≠ 14003 ∧ a ≠ 14004) → σ_6 a = σ a := by intro a ha; exact Eq.trans (b := σ_5 a) (eσ_6_d a (by first | omega | (simp only [vb] at *; omega))) (hcFR_σ_5 a ha)
      have hcLD_σ_6 : LC (vb 1) σ_6 0 g := eσ_6_b
      have hcLC_σ_6 : LC (vb 0) σ_6 0 g := eσ_6_c
      obtain ⟨μk, eμk⟩ : ∃ μk : Nat → Int32, μk = (ν) := ⟨_, rfl⟩
      have hvσ_6 : vw (vb 0) σ_6 = μk := by rw [eμk]; exact eσ_6_a
      have hwσ_6 : vw (vb 1) σ_6 = ν := by rw [vw_fr (σ := σ_5) (fun j _ _ => eσ_6_d _ (by first | omega | (simp only [vb] at *; omega)))]; first | exact hwσ_5 | assumption
      refine g_aload_n h dX11_load_94 0 rfl ?_
      refine g_getr h dX11_load_95 gX11_23 sc_12 rfl ?_
      refine g_geti h dX11_load_98 gX11_120 (sM_0 (m := 0) (by decide)) rfl ?_
      refine g_top (y := μk 0) (vw_pic (b := (vb 0)) (k := 0) (by first | exact hvσ_6 | assumption) (by omega)) ?_
      exact g_iret h hQ dX11_load_101 (congrArg (fun z => some (Value.int z)) (show (an (fo (rg n (nI 0) (nI t)) (if F.1 = 0 then 0 else 9)) (nI (nN F.2.2.1))) = (μk 0) by first | exact an_yes (by first | exact fo_1 hs1 | exact fo_l (by rw [hs1]; decide) | (rw [fo_l (by rw [hs1]; decide), hs1]; done) | exact (fo_r hs1).trans (if_neg hF9) | exact (fo_r hs1).trans (if_pos hF9) | fail) (by rw [eμk, hν3 hF9]; exact (mi_0 (hMI hF9)).symm) | exact an_no (k := 0) (by first | exact fo_1 hs1 | exact fo_l (by rw [hs1]; decide) | (rw [fo_l (by rw [hs1]; decide), hs1]; done) | exact (fo_r hs1).trans (if_neg hF9) | exact (fo_r hs1).trans (if_pos hF9) | fail) (by first | decide | (rw [hs1]; decide)) | fail)) (by exact ⟨(by first | exact pk_yes (by first | exact fo_1 hs1 | exact fo_l (by rw [hs1]; decide) | (rw [fo_l (by rw [hs1]; decide), hs1]; done) | exact (fo_r hs1).trans (if_neg hF9) | exact (fo_r hs1).trans (if_pos hF9) | fail) (by rw [hvσ_6, eμk, hν3 hF9]) | exact pk_no (k := 0) (by first | exact fo_1 hs1 | exact fo_l (by rw [hs1]; decide) | (rw [fo_l (by rw [hs1]; decide), hs1]; done) | exact (fo_r hs1).trans (if_neg hF9) | exact (fo_r hs1).trans (if_pos hF9) | fail) (by first | decide | (rw [hs1]; decide)) (by first | exact hvσ_6 | (rw [hvσ_6]; simp only [eμk]; done)) | fail), (by exact tk_eq (k := 0) (by first | exact fo_1 hs1 | exact fo_l (by rw [hs1]; decide) | (rw [fo_l (by rw [hs1]; decide), hs1]; done) | exact (fo_r hs1).trans (if_neg hF9) | exact (fo_r hs1).trans (if_pos hF9) | fail) ht14000_σ_6), (by first | (rw [if_pos hs1]; exact ht14002_σ_6) | (rw [if_neg (by rw [hs1]; decide)]; exact ht14002_σ_6) | fail), (by first | (rw [if_pos hs1]; exact ht14003_σ_6) | (rw [if_neg (by rw [hs1]; decide)]; exact ht14003_σ_6) | fail), (by first | (rw [if_pos hs1]; exact ht14004_σ_6) | (rw [if_neg (by rw [hs1]; decide)]; exact ht14004_σ_6) | fail), (by first | (rw [if_pos hs1]; exact TX.le hcTP_σ_6 (by omega)) | (rw [if_neg (by rw [hs1]; decide)]; exact hcTP_σ_6) | fail), (by first | (rw [if_pos (by first | exact fo_1 hs1 | exact fo_l (by rw [hs1]; decide) | (rw [fo_l (by rw [hs1]; decide), hs1]; done) | exact (fo_r hs1).trans (if_neg hF9) | exact (fo_r hs1).trans (if_pos hF9) | fail)]; exact hcLC_σ_6) | (rw [if_neg (by rw [show fo (rg n (nI 0) (nI t)) (if F.1 = 0 then 0 else 9) = 0 from by first | exact fo_1 hs1 | exact fo_l (by rw [hs1]; decide) | (rw [fo_l (by rw [hs1]; decide), hs1]; done) | exact (fo_r hs1).trans (if_neg hF9) | exact (fo_r hs1).trans (if_pos hF9) | fail]; first | decide | (rw [hs1]; decide))]; exact hcLQ_σ_6) | fail), (by first | exact ⟨ν, by assumption, hν2⟩ | exact ⟨μ1, by assumption, hjz1⟩ | fail), (by exact hcFR_σ_6)⟩)
    ·
      have hF9 : ¬ F.1 = 0 := c66
      refine g_bipush h dX11_load_69 (by decide) ?_
      refine g_goto h dX11_load_71 ?_
      refine g_cvi (rest := []) h (c_fails hW 9 (by repeat (first | omega | exact rg_lt | exact ns_lt | exact ps_lt | exact gst_lt | exact ofS_lt | exact if_lt (by decide) (by decide) | apply fo_lt))) lX11_fails mX11_106 (Nat.lt_of_lt_of_le (by decide) (Nat.le_refl _)) (by decide) sc_12 rfl rfl rfl rfl dX11_load_75 (fun σ_7 eσ_7 => ?_)
      obtain ⟨eσ_7_a, eσ_7_b⟩ := eσ_7
      have eσ_7_a : σ_7 14000 = (nI 9) := eσ_7_a
      have eσ_7_b : ∀ a, (a ≠ 14000) → σ_7 a = σ_4 a := eσ_7_b
      have ht14002_σ_7 : σ_7 14002 = (nI 0) := by rw [eσ_7_b _ (by first | omega | (simp only [vb] at *; omega))]; first | exact ht14002_σ_4 | assumption
      have ht14003_σ_7 : σ_7 14003 = (nI F.1) := by rw [eσ_7_b _ (by first | omega | (simp only [vb] at *; omega))]; first | exact ht14003_σ_4 | assumption
      have ht14004_σ_7 : σ_7 14004 = (if F.1 = 0 then -1 else nI (txS tp (toN n) F.2.1)) := by rw [eσ_7_b _ (by first | omega | (simp only [vb] at *; omega))]; first | exact ht14004_σ_4 | assumption
      have ht15000_σ_7 : σ_7 15000 = (nI F.1) := by rw [eσ_7_b _ (by first | omega | (simp only [vb] at *; omega))]; first | exact ht15000_σ_4 | assumption
      have ht15001_σ_7 : σ_7 15001 = (if F.1 = 0 then -1 else nI (txS tp (toN n) F.2.1)) := by rw [eσ_7_b _ (by first | omega | (simp only [vb] at *; omega))]; first | exact ht15001_σ_4 | assumption
      have ht14000_σ_7 : σ_7 14000 = (nI 9) := eσ_7_a
      have hcTP_σ_7 : TX 14100 σ_7 t tp := by exact TX.fr hcTP_σ_4 (fun a ha hb => eσ_7_b a (by first | omega | (simp only [vb] at *; omega)))
      have hcLQ_σ_7 : LC (vb 0) σ_7 nt g := by exact LC.fr hcLQ_σ_4 (fun a ha hb => eσ_7_b a (by first | omega | (simp only [vb] at *; omega)))
      have hcFR_σ_7 : ∀ a, ((a < 10000 ∨ 11056 ≤ a) ∧ a < 14900 ∧ a ≠ 14000 ∧ a ≠ 14002 ∧ a ≠ 14003 ∧ a ≠ 14004) → σ_7 a = σ a := by intro a ha; exact Eq.trans (b := σ_4 a) (eσ_7_b a (by first | omega | (simp only [vb] at *; omega))) (hcFR_σ_4 a ha)
      have hcLD_σ_7 : LC (vb 1) σ_7 0 g := by exact LC.fr hcLD_σ_4 (fun a ha hb => eσ_7_b a (by first | omega | (simp only [vb] at *; omega)))
      have hvσ_7 : vw (vb 0) σ_7 = μ := by rw [vw_fr (σ := σ_4) (fun j _ _ => eσ_7_b _ (by first | omega | (simp only [vb] at *; omega)))]; first | exact hvσ_4 | assumption
      have hwσ_7 : vw (vb 1) σ_7 = ν := by rw [vw_fr (σ := σ_4) (fun j _ _ => eσ_7_b _ (by first | omega | (simp only [vb] at *; omega)))]; first | exact hwσ_4 | assumption
      refine g_top (y := nI 1) rfl ?_
      refine g_ifN_eq h dX11_load_78 (by decide) (fun c78 => absurd c78 (by decide)) (fun c78 => ?_)
      refine g_iconstv h dX11_load_81 (v := (-1)) (by decide) ?_
      exact g_iret h hQ dX11_load_82 (congrArg (fun z => some (Value.int z)) (show (an (fo (rg n (nI 0) (nI t)) (if F.1 = 0 then 0 else 9)) (nI (nN F.2.2.1))) = (-1) by first | exact an_yes (by first | exact fo_1 hs1 | exact fo_l (by rw [hs1]; decide) | (rw [fo_l (by rw [hs1]; decide), hs1]; done) | exact (fo_r hs1).trans (if_neg hF9) | exact (fo_r hs1).trans (if_pos hF9) | fail) (by rw [eμk, hν3 hF9]; exact (mi_0 (hMI hF9)).symm) | exact an_no (k := 9) (by first | exact fo_1 hs1 | exact fo_l (by rw [hs1]; decide) | (rw [fo_l (by rw [hs1]; decide), hs1]; done) | exact (fo_r hs1).trans (if_neg hF9) | exact (fo_r hs1).trans (if_pos hF9) | fail) (by first | decide | (rw [hs1]; decide)) | fail)) (by exact ⟨(by first | exact pk_yes (by first | exact fo_1 hs1 | exact fo_l (by rw [hs1]; decide) | (rw [fo_l (by rw [hs1]; decide), hs1]; done) | exact (fo_r hs1).trans (if_neg hF9) | exact (fo_r hs1).trans (if_pos hF9) | fail) (by rw [hvσ_7, eμk, hν3 hF9]) | exact pk_no (k := 9) (by first | exact fo_1 hs1 | exact fo_l (by rw [hs1]; decide) | (rw [fo_l (by rw [hs1]; decide), hs1]; done) | exact (fo_r hs1).trans (if_neg hF9) | exact (fo_r hs1).trans (if_pos hF9) | fail) (by first | decide | (rw [hs1]; decide)) (by first | exact hvσ_7 | (rw [hvσ_7]; simp only [Nat.add_zero]; done)) | fail), (by exact tk_eq (k := 9) (by first | exact fo_1 hs1 | exact fo_l (by rw [hs1]; decide) | (rw [fo_l (by rw [hs1]; decide), hs1]; done) | exact (fo_r hs1).trans (if_neg hF9) | exact (fo_r hs1).trans (if_pos hF9) | fail) ht14000_σ_7), (by first | (rw [if_pos hs1]; exact ht14002_σ_7) | (rw [if_neg (by rw [hs1]; decide)]; exact ht14002_σ_7) | fail), (by first | (rw [if_pos hs1]; exact ht14003_σ_7) | (rw [if_neg (by rw [hs1]; decide)]; exact ht14003_σ_7) | fail), (by first | (rw [if_pos hs1]; exact ht14004_σ_7) | (rw [if_neg (by rw [hs1]; decide)]; exact ht14004_σ_7) | fail), (by first | (rw [if_pos hs1]; exact TX.le hcTP_σ_7 (by omega)) | (rw [if_neg (by rw [hs1]; decide)]; exact hcTP_σ_7) | fail), (by first | (rw [if_pos (by first | exact fo_1 hs1 | exact fo_l (by rw [hs1]; decide) | (rw [fo_l (by rw [hs1]; decide), hs1]; done) | exact (fo_r hs1).trans (if_neg hF9) | exact (fo_r hs1).trans (if_pos hF9) | fail)]; exact hcLC_σ_7) | (rw [if_neg (by rw [show fo (rg n (nI 0) (nI t)) (if F.1 = 0 then 0 else 9) = 9 from by first | exact fo_1 hs1 | exact fo_l (by rw [hs1]; decide) | (rw [fo_l (by rw [hs1]; decide), hs1]; done) | exact (fo_r hs1).trans (if_neg hF9) | exact (fo_r hs1).trans (if_pos hF9) | fail]; first | decide | (rw [hs1]; decide))]; exact hcLQ_σ_7) | fail), (by first | exact ⟨ν, by assumption, hν2⟩ | exact ⟨μ1, by assumption, hjz1⟩ | fail), (by exact hcFR_σ_7)⟩)
  ·
    have hs0 := nb1 c13
    have hs1 : rg n (nI 0) (nI t) = 1 := rg_1 hs0
    refine g_iconstv h dX11_load_16 (v := (-1)) (by decide) ?_
    exact g_iret h hQ dX11_load_17 (congrArg (fun z => some (Value.int z)) (show (an (fo (rg n (nI 0) (nI t)) (if F.1 = 0 then 0 else 9)) (nI (nN F.2.2.1))) = (-1) by first | exact an_yes (by first | exact fo_1 hs1 | exact fo_l (by rw [hs1]; decide) | (rw [fo_l (by rw [hs1]; decide), hs1]; done) | exact (fo_r hs1).trans (if_neg hF9) | exact (fo_r hs1).trans (if_pos hF9) | fail) (by rw [eμk, hν3 hF9]; exact (mi_0 (hMI hF9)).symm) | exact an_no (k := (rg n (nI 0) (nI t))) (by first | exact fo_1 hs1 | exact fo_l (by rw [hs1]; decide) | (rw [fo_l (by rw [hs1]; decide), hs1]; done) | exact (fo_r hs1).trans (if_neg hF9) | exact (fo_r hs1).trans (if_pos hF9) | fail) (by first | decide | (rw [hs1]; decide)) | fail)) (by exact ⟨(by first | exact pk_yes (by first | exact fo_1 hs1 | exact fo_l (by rw [hs1]; decide) | (rw [fo_l (by rw [hs1]; decide), hs1]; done) | exact (fo_r hs1).trans (if_neg hF9) | exact (fo_r hs1).trans (if_pos hF9) | fail) (by rw [hvσ_1, eμk, hν3 hF9]) | exact pk_no (k := (rg n (nI 0) (nI t))) (by first | exact fo_1 hs1 | exact fo_l (by rw [hs1]; decide) | (rw [fo_l (by rw [hs1]; decide), hs1]; done) | exact (fo_r hs1).trans (if_neg hF9) | exact (fo_r hs1).trans (if_pos hF9) | fail) (by first | decide | (rw [hs1]; decide)) (by first | exact hvσ_1 | (rw [hvσ_1]; simp only [Nat.add_zero]; done)) | fail), (by exact tk_eq (k := (rg n (nI 0) (nI t))) (by first | exact fo_1 hs1 | exact fo_l (by rw [hs1]; decide) | (rw [fo_l (by rw [hs1]; decide), hs1]; done) | exact (fo_r hs1).trans (if_neg hF9) | exact (fo_r hs1).trans (if_pos hF9) | fail) ht14000_σ_1), (by first | (rw [if_pos hs1]; exact ht14002_σ_1) | (rw [if_neg (by rw [hs1]; decide)]; exact ht14002_σ_1) | fail), (by first | (rw [if_pos hs1]; exact ht14003_σ_1) | (rw [if_neg (by rw [hs1]; decide)]; exact ht14003_σ_1) | fail), (by first | (rw [if_pos hs1]; exact ht14004_σ_1) | (rw [if_neg (by rw [hs1]; decide)]; exact ht14004_σ_1) | fail), (by first | (rw [if_pos hs1]; exact TX.le hcTP_σ_1 (by omega)) | (rw [if_neg (by rw [hs1]; decide)]; exact hcTP_σ_1) | fail), (by first | (rw [if_pos (by first | exact fo_1 hs1 | exact fo_l (by rw [hs1]; decide) | (rw [fo_l (by rw [hs1]; decide), hs1]; done) | exact (fo_r hs1).trans (if_neg hF9) | exact (fo_r hs1).trans (if_pos hF9) | fail)]; exact hcLC_σ_1) | (rw [if_neg (by rw [show fo (rg n (nI 0) (nI t)) (if F.1 = 0 then 0 else 9) = (rg n (nI 0) (nI t)) from by first | exact fo_1 hs1 | exact fo_l (by rw [hs1]; decide) | (rw [fo_l (by rw [hs1]; decide), hs1]; done) | exact (fo_r hs1).trans (if_neg hF9) | exact (fo_r hs1).trans (if_pos hF9) | fail]; first | decide | (rw [hs1]; decide))]; exact hcLQ_σ_1) | fail), (by first | exact ⟨ν, by assumption, hν2⟩ | exact ⟨μ1, by assumption, hjz1⟩ | fail), (by exact hcFR_σ_1)⟩)
