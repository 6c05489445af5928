/-! going, in words -/
def stp (μ : Nat → Int32) (to h : Nat) : Option Nat := if (!decide (rs (rts μ h 6) to = 0) && tb (μ 1) (rx (rts μ h 6) to) && tb (μ (24 + rx (rts μ h 6) to)) h) = true then some (rx (rts μ h 6) to) else none
def goR (μ : Nat → Int32) (to : Nat) : Nat → Nat → (Nat → Nat) → Int32 → Nat × Nat × (Nat → Nat) × Int32
  | 0, km, gn, been => (1, km, gn, been)
  | f + 1, km, gn, been => match stp μ to (gn (km - 1)) with
    | none => (1, km, gn, been)
    | some n => if n = to then (0, km + 1, ru gn km n, been) else if tb been n = true then (2, km + 1, ru gn km n, been) else goR μ to f (km + 1) (ru gn km n) (been ||| bt1 n)
def gnw (μ : Nat → Int32) (fr to : Nat) : Nat × Nat × (Nat → Nat) × Int32 := goR μ to 8 1 (fun _ => fr) (bt1 fr)
theorem stp_0 {μ : Nat → Int32} {to h : Nat} (e : rs (rts μ h 6) to = 0) : stp μ to h = none := by
  unfold stp
  rw [if_neg (by simp [e])]
theorem stp_1 {μ : Nat → Int32} {to h : Nat} (e : tb (μ 1) (rx (rts μ h 6) to) = false) : stp μ to h = none := by
  unfold stp
  rw [if_neg (by simp [e])]
theorem stp_2 {μ : Nat → Int32} {to h : Nat} (e : tb (μ (24 + rx (rts μ h 6) to)) h = false) : stp μ to h = none := by
  unfold stp
  rw [if_neg (by simp [e])]
theorem stp_y {μ : Nat → Int32} {to h : Nat} (e0 : rs (rts μ h 6) to ≠ 0) (e1 : tb (μ 1) (rx (rts μ h 6) to) = true) (e2 : tb (μ (24 + rx (rts μ h 6) to)) h = true) : stp μ to h = some (rx (rts μ h 6) to) := by
  unfold stp
  rw [if_pos (by simp [e0, e1, e2])]
section GO
variable {μ : Nat → Int32} {to km n : Nat} {gn : Nat → Nat} {been : Int32}
theorem goR_none (h : stp μ to (gn (km - 1)) = none) (hk : km ≤ 8) : goR μ to (9 - km) km gn been = (1, km, gn, been) := by
  rw [show 9 - km = (8 - km) + 1 from by omega, goR, h]
theorem goR_to (h : stp μ to (gn (km - 1)) = some n) (hk : km ≤ 8) (e : n = to) : goR μ to (9 - km) km gn been = (0, km + 1, ru gn km n, been) := by
  rw [show 9 - km = (8 - km) + 1 from by omega, goR, h]
  dsimp only
  rw [if_pos e]
theorem goR_back (h : stp μ to (gn (km - 1)) = some n) (hk : km ≤ 8) (e : n ≠ to) (b : tb been n = true) : goR μ to (9 - km) km gn been = (2, km + 1, ru gn km n, been) := by
  rw [show 9 - km = (8 - km) + 1 from by omega, goR, h]
  dsimp only
  rw [if_neg e, if_pos b]
theorem goR_more (h : stp μ to (gn (km - 1)) = some n) (hk : km ≤ 8) (e : n ≠ to) (b : tb been n = false) : goR μ to (9 - km) km gn been = goR μ to (9 - (km + 1)) (km + 1) (ru gn km n) (been ||| bt1 n) := by
  rw [show 9 - km = (9 - (km + 1)) + 1 from by omega, goR, h]
  dsimp only
  rw [if_neg e, if_neg (by rw [b]; decide)]
end GO
theorem rts_rx {μ : Nat → Int32} {i y : Nat} (hI : MI μ) (hi : i < 8) (h : rs (rts μ i 6) y ≠ 0) : rx (rts μ i 6) y < nN μ := by
  obtain ⟨p, h1, h2⟩ := rs_some (R := rts μ i 6) (y := y) rfl (by omega)
  have := (rts_lv hI hi 6 y p h1).2.2.2.1
  unfold rx
  rw [h1]
  exact this
theorem pc_bt {k : Nat} (hk : k < 8) : pc (bt1 k) = 1 := by
  have e1 : ∀ k, k < 8 → pc (bt1 k) = 1 := by decide
  exact e1 k hk
def GN (b : Nat) (σ : Mem) (k : Nat) (gn : Nat → Nat) : Prop := ∀ q, q < k → σ (b + q) = nI (gn q)
theorem GN.fr {b k : Nat} {gn : Nat → Nat} {σ σ' : Mem} (h : GN b σ k gn) (f : ∀ a, b ≤ a → a < b + k → σ' a = σ a) : GN b σ' k gn := fun q hq => by
  rw [f _ (by omega) (by omega)]
  exact h q hq
theorem GN.more {b k n : Nat} {gn : Nat → Nat} {σ σ' : Mem} (h : GN b σ k gn) (e : σ' = upd σ (b + k) (nI n)) : GN b σ' (k + 1) (ru gn k n) := fun q hq => by
  by_cases e9 : q = k
  · subst e9
    rw [ru_eq, e]
    exact upd_eq
  · rw [ru_ne e9, e, upd_ne (by omega)]
    exact h q (by omega)
/-- where the reference stands, going -/
def GS (μ : Nat → Int32) (fr to km : Nat) (gn : Nat → Nat) (been : Int32) : Prop :=
  (gn (km - 1) ≠ to ∧ goR μ to (9 - km) km gn been = gnw μ fr to ∧ pc been = km ∧ tb been to = false ∧ sb 8 been) ∨
  (gn (km - 1) = to ∧ (gnw μ fr to).1 = 0 ∧ (gnw μ fr to).2.1 = km ∧ (gnw μ fr to).2.2.1 = gn)
theorem GS.init {μ : Nat → Int32} {fr to : Nat} (hf : fr < 8) (ht : to < 8) (hne : fr ≠ to) : GS μ fr to 1 (fun _ => fr) (bt1 fr) :=
  Or.inl ⟨hne, rfl, pc_bt hf, by rw [tb_bt1 (by omega)]; simp; omega, sb_bt1 hf (by omega)⟩
theorem GS.next {μ : Nat → Int32} {fr to km n : Nat} {gn : Nat → Nat} {been : Int32} (h : GS μ fr to km gn been) (hc : gn (km - 1) ≠ to) (hs : stp μ to (gn (km - 1)) = some n) (hn : n < 8) (hk : km ≤ 8) (ht : to < 8) (hb : tb been n = false) : GS μ fr to (km + 1) (ru gn km n) (been ||| bt1 n) := by
  rcases h with ⟨h1, h2, h3, h4, h5⟩ | h
  · by_cases e : n = to
    · right
      rw [goR_to hs hk e] at h2
      rw [show km + 1 - 1 = km from rfl, ru_eq, ← h2]
      exact ⟨e, rfl, rfl, rfl⟩
    · left
      rw [goR_more hs hk e hb] at h2
      rw [show km + 1 - 1 = km from rfl, ru_eq]
      refine ⟨e, h2, by rw [pc_bt1 hn hb, h3], ?_, sb_or h5 (sb_bt1 hn (by omega))⟩
      rw [tb_or, h4, tb_bt1 (by omega)]
      simp
      omega
  · exact absurd h.1 hc
theorem GS.pc {μ : Nat → Int32} {fr to km : Nat} {gn : Nat → Nat} {been : Int32} (h : GS μ fr to km gn been) (hc : gn (km - 1) ≠ to) : km ≤ 8 ∧ tb been to = false ∧ goR μ to (9 - km) km gn been = gnw μ fr to := by
  rcases h with ⟨h1, h2, h3, h4, h5⟩ | h
  · exact ⟨by rw [← h3]; exact pc_le _, h4, h2⟩
  · exact absurd h.1 hc
theorem GS.fin {μ : Nat → Int32} {fr to km : Nat} {gn : Nat → Nat} {been : Int32} (h : GS μ fr to km gn been) (hc : gn (km - 1) = to) : (gnw μ fr to).1 = 0 ∧ (gnw μ fr to).2.1 = km ∧ (gnw μ fr to).2.2.1 = gn := by
  rcases h with ⟨h1, _⟩ | h
  · exact absurd hc h1
  · exact h.2
theorem goR_le {μ : Nat → Int32} {to : Nat} : ∀ f km gn been, (goR μ to f km gn been).2.1 ≤ km + f
  | 0, km, gn, been => Nat.le_refl _
  | f + 1, km, gn, been => by
    rw [goR]
    cases stp μ to (gn (km - 1)) with
    | none => exact Nat.le_add_right _ _
    | some n =>
      dsimp only
      split
      · exact (show km + 1 ≤ km + (f + 1) by omega)
      · split
        · exact (show km + 1 ≤ km + (f + 1) by omega)
        · have := goR_le (μ := μ) (to := to) f (km + 1) (ru gn km n) (been ||| bt1 n)
          omega
theorem gnw_le {μ : Nat → Int32} {fr to : Nat} : (gnw μ fr to).2.1 ≤ 9 := goR_le 8 1 _ _
theorem GS.k9 {μ : Nat → Int32} {fr to km : Nat} {gn : Nat → Nat} {been : Int32} (h : GS μ fr to km gn been) : km ≤ 9 := by
  by_cases c : gn (km - 1) = to
  · rw [← (h.fin c).2.1]
    exact gnw_le
  · have := (h.pc c).1
    omega

set_option maxRecDepth 100000 in
set_option maxHeartbeats 4000000 in
theorem r_going {l : Launch} {w : Wd} (hW : Wi w) {σ : Mem} (fr to : Nat) (μ : Nat → Int32) (hv : vw 0 σ = μ) (hI : MI μ) (hf : fr < nN μ) (ht : to < nN μ) (hne : fr ≠ to) : MC l w qX12_going 5 [.ref (w.1 0), .int (nI fr), .int (nI to)] σ (some (.int (nI ((gnw μ fr to).1)))) (fun σ' => (σ' 5011 = (nI ((gnw μ fr to).2.1))) ∧ (GN 5170 σ' (gnw μ fr to).2.1 (gnw μ fr to).2.2.1) ∧ (∀ a, ((a < 5150 ∨ 5180 ≤ a) ∧ a ≠ 5011) → σ' a = σ a)) := by
  refine MC.of hW (by decide +kernel) (Nat.le_of_ble_eq_true rfl) (fun X h hQ hnm => ?_)
  have h : Fx X w cX12_going 6 RX12 5 := h
  have hQ : Qx X w (some .int) (some (.int (nI ((gnw μ fr to).1)))) (fun σ' => (σ' 5011 = (nI ((gnw μ fr to).2.1))) ∧ (GN 5170 σ' (gnw μ fr to).2.1 (gnw μ fr to).2.2.1) ∧ (∀ a, ((a < 5150 ∨ 5180 ≤ a) ∧ a ≠ 5011) → σ' a = σ a)) := hQ
  have hN8 := mi_8 hI
  have hcFR_σ : ∀ a, ((a < 5150 ∨ 5180 ≤ a) ∧ a ≠ 5011) → σ a = σ a := fun _ _ => rfl
  show G X w 6 0 [(0, .ref (w.1 0)), (1, .int (nI fr)), (2, .int (nI to))] [] σ
  refine g_iconst h dX12_going_0 (by decide) ?_
  refine g_iload_n h dX12_going_1 1 rfl ?_
  refine g_ishl h dX12_going_2  ?_
  refine g_top (y := bt1 fr) rfl ?_
  refine g_istore_n (L' := [(0, .ref (w.1 0)), (1, .int (nI fr)), (2, .int (nI to)), (3, .int (bt1 fr))]) h dX12_going_3 rfl (by decide) rfl ?_
  refine g_aload_n h dX12_going_4 0 rfl ?_
  refine g_getr h dX12_going_5 gX12_48 sc_0 rfl ?_
  refine g_iconst h dX12_going_8 (by decide) ?_
  refine g_iload_n h dX12_going_9 1 rfl ?_
  refine g_iast h dX12_going_10 sc_11 (by omega) ?_
  refine g_nm (fun σa eσa => ?_)
  have eσa : σa = upd σ (5170 + 0) (nI fr) := eσa
  have hcFR_σa : ∀ a, ((a < 5150 ∨ 5180 ≤ a) ∧ a ≠ 5011) → σa a = σ a := by intro a ha; exact Eq.trans (b := σ a) (by rw [eσa, upd_ne (by first | omega | (simp only [vb] at *; omega))]) (hcFR_σ a ha)
  have hvσa : vw 0 σa = μ := by rw [eσa, vw_out (by omega)]; first | exact hv | assumption
  refine g_aload_n h dX12_going_11 0 rfl ?_
  refine g_iconst h dX12_going_12 (by decide) ?_
  have hcGN_σa : GN 5170 σa 1 (fun _ => fr) := fun q hq => by rw [show q = 0 from by omega]; rw [eσa]; exact upd_eq
  refine g_puti h dX12_going_13 pX12_312 sc_0 rfl ?_
  refine g_nm (fun σ_1 eσ_1 => ?_)
  have eσ_1 : σ_1 = upd σa 5011 (nI 1) := eσ_1
  have ht5011_σ_1 : σ_1 5011 = (nI 1) := by rw [eσ_1]; exact upd_eq
  have hcFR_σ_1 : ∀ a, ((a < 5150 ∨ 5180 ≤ a) ∧ a ≠ 5011) → σ_1 a = σ a := by intro a ha; exact Eq.trans (b := σa a) (by rw [eσ_1, upd_ne (by first | omega | (simp only [vb] at *; omega))]) (hcFR_σa a ha)
  have hcGN_σ_1 : GN 5170 σ_1 1 (fun _ => fr) := by rw [eσ_1]; exact GN.fr hcGN_σa (fun a ha hb => upd_ne (by omega))
  have hvσ_1 : vw 0 σ_1 = μ := by rw [eσ_1, vw_out (by omega)]; first | exact hvσa | assumption
  have lp16 : ∀ (k9 : Nat) (been : Int32) (km : Nat) (gn : Nat → Nat) (τ : Mem), (GS μ fr to km gn been) → (1 ≤ km) → (∀ q, q < km → gn q < nN μ) → (vw 0 τ = μ) → (τ 5011 = (nI km)) → (∀ a, ((a < 5150 ∨ 5180 ≤ a) ∧ a ≠ 5011) → τ a = σ a) → (GN 5170 τ km gn) → 9 - km < k9 → G X w 6 16 [(0, .ref (w.1 0)), (1, .int (nI fr)), (2, .int (nI to)), (3, .int been)] [] (τ) := by
    intro k9
    induction k9 with
    | zero => intro been km gn τ hs hkm hgn hvτ ht5011_τ hcFR_τ hcGN_τ hm9; exact absurd hm9 (Nat.not_lt_zero _)
    | succ k9 ih16 =>
      intro been km gn τ hs hkm hgn hvτ ht5011_τ hcFR_τ hcGN_τ hm16
      have hg0 := hgn (km - 1) (by omega)
      have h9 := hs.k9
      refine g_aload_n h dX12_going_16 0 rfl ?_
      refine g_getr h dX12_going_17 gX12_48 sc_0 rfl ?_
      refine g_aload_n h dX12_going_20 0 rfl ?_
      refine g_geti h dX12_going_21 gX12_312 sc_0 rfl ?_
      refine g_top (y := (nI km)) (by first | exact ht5011_τ | assumption) ?_
      refine g_iconst h dX12_going_24 (by decide) ?_
      refine g_isubN h dX12_going_25 (by omega) ?_
      refine g_iald h dX12_going_26 sc_11 (by omega) ?_
      refine g_top (y := (nI (gn (km - 1)))) (hcGN_τ (km - 1) (by omega)) ?_
      refine g_iload_n h dX12_going_27 2 rfl ?_
      refine g_icmpN_eq h dX12_going_28 (by omega) (by omega) (fun c28 => ?_) (fun c28 => ?_)
      ·
        have hE := hs.fin c28
        refine g_iconst h dX12_going_137 (by decide) ?_
        exact g_iret h hQ dX12_going_138 (congrArg (fun z => some (Value.int z)) (show (nI ((gnw μ fr to).1)) = (nI 0) by rw [hE.1])) (by exact ⟨(by first | (rw [hE]; exact ht5011_τ) | (rw [hE.2.1]; exact ht5011_τ) | fail), (by first | (rw [hE]; exact hcGN_τ) | (rw [hE.2.1, hE.2.2]; exact hcGN_τ) | fail), (by exact hcFR_τ)⟩)
      ·
        have hp := hs.pc c28
        have hb6 := rts_rb hI (show gn (km - 1) < 8 by omega) 6 (by omega) to
        refine g_aload_n h dX12_going_31 0 rfl ?_
        refine g_getr h dX12_going_32 gX12_48 sc_0 rfl ?_
        refine g_aload_n h dX12_going_35 0 rfl ?_
        refine g_geti h dX12_going_36 gX12_312 sc_0 rfl ?_
        refine g_top (y := (nI km)) (by first | exact ht5011_τ | assumption) ?_
        refine g_iconst h dX12_going_39 (by decide) ?_
        refine g_isubN h dX12_going_40 (by omega) ?_
        refine g_iald h dX12_going_41 sc_11 (by omega) ?_
        refine g_top (y := (nI (gn (km - 1)))) (hcGN_τ (km - 1) (by omega)) ?_
        refine g_istore (L' := [(0, .ref (w.1 0)), (1, .int (nI fr)), (2, .int (nI to)), (3, .int been), (4, .int (nI (gn (km - 1))))]) h dX12_going_42 rfl (by decide) rfl ?_
        refine g_aload_n h dX12_going_44 0 rfl ?_
        refine g_iload h dX12_going_45 4 rfl ?_
        refine g_cvv (rest := []) h (r_laysRoutes hW (gn (km - 1)) μ (by first | exact hvτ | assumption | fail) (by assumption) (by omega)) lX12_laysRoutes mX12_306 (Nat.lt_of_lt_of_le (by decide) (Nat.le_refl _)) (by decide) sc_0 rfl rfl rfl rfl dX12_going_47 (fun σL eσL => ?_)
        obtain ⟨eσL_a, eσL_b⟩ := eσL
        have eσL_a : RR σL (rts μ (gn (km - 1)) 6) := eσL_a
        have eσL_b : ∀ a, (a < 5150 ∨ 5168 ≤ a) → σL a = (τ) a := eσL_b
        have ht5011_σL : σL 5011 = (nI km) := by rw [eσL_b _ (by first | omega | (simp only [vb] at *; omega))]; first | exact ht5011_τ | assumption
        have hcFR_σL : ∀ a, ((a < 5150 ∨ 5180 ≤ a) ∧ a ≠ 5011) → σL a = σ a := by intro a ha; exact Eq.trans (b := (τ) a) (eσL_b a (by first | omega | (simp only [vb] at *; omega))) (hcFR_τ a ha)
        have hcGN_σL : GN 5170 σL km gn := by exact GN.fr hcGN_τ (fun a ha hb => eσL_b a (by omega))
        have hcRR_σL : RR σL (rts μ (gn (km - 1)) 6) := eσL_a
        have hvσL : vw 0 σL = μ := by rw [vw_fr (σ := (τ)) (fun j _ _ => eσL_b _ (by first | omega | (simp only [vb] at *; omega)))]; first | exact hvτ | assumption
        refine g_aload_n h dX12_going_50 0 rfl ?_
        refine g_getr h dX12_going_51 gX12_45 sc_0 rfl ?_
        refine g_iload_n h dX12_going_54 2 rfl ?_
        refine g_iald h dX12_going_55 sc_10 (by omega) ?_
        refine g_top (y := (rn (rts μ (gn (km - 1)) 6) to)) ((hcRR_σL to (by omega)).2) ?_
        refine g_istore (L' := [(0, .ref (w.1 0)), (1, .int (nI fr)), (2, .int (nI to)), (3, .int been), (4, .int (nI (gn (km - 1)))), (5, .int (rn (rts μ (gn (km - 1)) 6) to))]) h dX12_going_56 rfl (by decide) rfl ?_
        refine g_aload_n h dX12_going_58 0 rfl ?_
        refine g_getr h dX12_going_59 gX12_42 sc_0 rfl ?_
        refine g_iload_n h dX12_going_62 2 rfl ?_
        refine g_iald h dX12_going_63 sc_9 (by omega) ?_
        refine g_top (y := (nI (rs (rts μ (gn (km - 1)) 6) to))) ((hcRR_σL to (by omega)).1) ?_
        refine g_ifN_eq h dX12_going_64 (by omega) (fun c64 => ?_) (fun c64 => ?_)
        ·
          have hE : gnw μ fr to = (1, km, gn, been) := by rw [← hp.2.2]; first | exact goR_none (stp_0 (by omega)) hp.1 | exact goR_none (stp_1 c73) hp.1 | exact goR_none (stp_2 c90) hp.1
          refine g_iconst h dX12_going_93 (by decide) ?_
          exact g_iret h hQ dX12_going_94 (congrArg (fun z => some (Value.int z)) (show (nI ((gnw μ fr to).1)) = (nI 1) by rw [hE])) (by exact ⟨(by first | (rw [hE]; exact ht5011_σL) | (rw [hE.2.1]; exact ht5011_σL) | fail), (by first | (rw [hE]; exact hcGN_σL) | (rw [hE.2.1, hE.2.2]; exact hcGN_σL) | fail), (by exact hcFR_σL)⟩)
        ·
          have h0 : rs (rts μ (gn (km - 1)) 6) to ≠ 0 := by omega
          have hn8 := rts_rx hI (show gn (km - 1) < 8 by omega) h0
          rw [rn_rx h0]
          show G X w 6 67 [(0, .ref (w.1 0)), (1, .int (nI fr)), (2, .int (nI to)), (3, .int been), (4, .int (nI (gn (km - 1)))), (5, .int (nI (rx (rts μ (gn (km - 1)) 6) to)))] [] σL
          refine g_aload_n h dX12_going_67 0 rfl ?_
          refine g_iload h dX12_going_68 5 rfl ?_
          refine g_cvpi (rest := []) h (r_isOn hW (rx (rts μ (gn (km - 1)) 6) to) μ (by assumption) (by omega)) lX12_isOn mX12_114 (Nat.lt_of_lt_of_le (by decide) (Nat.le_refl _)) (by decide) sc_0 rfl rfl rfl rfl dX12_going_70 ?_
          refine g_ifB_eq h dX12_going_73 (fun c73 => ?_) (fun c73 => ?_)
          ·
            have hE : gnw μ fr to = (1, km, gn, been) := by rw [← hp.2.2]; first | exact goR_none (stp_0 (by omega)) hp.1 | exact goR_none (stp_1 c73) hp.1 | exact goR_none (stp_2 c90) hp.1
            refine g_iconst h dX12_going_93 (by decide) ?_
            exact g_iret h hQ dX12_going_94 (congrArg (fun z => some (Value.int z)) (show (nI ((gnw μ fr to).1)) = (nI 1) by rw [hE])) (by exact ⟨(by first | (rw [hE]; exact ht5011_σL) | (rw [hE.2.1]; exact ht5011_σL) | fail), (by first | (rw [hE]; exact hcGN_σL) | (rw [hE.2.1, hE.2.2]; exact hcGN_σL) | fail), (by exact hcFR_σL)⟩)
          ·
            refine g_aload_n h dX12_going_76 0 rfl ?_
            refine g_bipush h dX12_going_77 (by decide) ?_
            refine g_iload h dX12_going_79 5 rfl ?_
            refine g_iaddN h dX12_going_81  ?_
            refine g_cvpi (rest := []) h (r_of hW (24 + rx (rts μ (gn (km - 1)) 6) to) μ (by assumption) (by omega)) lX12_of mX12_61 (Nat.lt_of_lt_of_le (by decide) (Nat.le_refl _)) (by decide) sc_0 rfl rfl rfl rfl dX12_going_82 ?_
            refine g_iload h dX12_going_85 4 rfl ?_
            refine g_cspi (rest := []) h (r_has hW (μ (24 + rx (rts μ (gn (km - 1)) 6) to)) (gn (km - 1)) (by omega)) lX12_has mX12_65 (Nat.lt_of_lt_of_le (by decide) (Nat.le_refl _)) (by decide) rfl rfl rfl dX12_going_87 ?_
            refine g_ifB_ne h dX12_going_90 (fun c90 => ?_) (fun c90 => ?_)
            ·
              have hst := stp_y h0 c73 c90
              refine g_aload_n h dX12_going_95 0 rfl ?_
              refine g_getr h dX12_going_96 gX12_48 sc_0 rfl ?_
              refine g_aload_n h dX12_going_99 0 rfl ?_
              refine g_geti h dX12_going_100 gX12_312 sc_0 rfl ?_
              refine g_top (y := (nI km)) (by first | exact ht5011_σL | assumption) ?_
              refine g_iload h dX12_going_103 5 rfl ?_
              refine g_iast h dX12_going_105 sc_11 (by omega) ?_
              refine g_nm (fun σg eσg => ?_)
              have eσg : σg = upd σL (5170 + km) (nI (rx (rts μ (gn (km - 1)) 6) to)) := eσg
              have ht5011_σg : σg 5011 = (nI km) := by rw [eσg, upd_ne (by first | omega | (simp only [vb] at *; omega))]; first | exact ht5011_σL | assumption
              have hcFR_σg : ∀ a, ((a < 5150 ∨ 5180 ≤ a) ∧ a ≠ 5011) → σg a = σ a := by intro a ha; exact Eq.trans (b := σL a) (by rw [eσg, upd_ne (by first | omega | (simp only [vb] at *; omega))]) (hcFR_σL a ha)
              have hcRR_σg : RR σg (rts μ (gn (km - 1)) 6) := by rw [eσg]; exact RR.fr hcRR_σL (fun a ha hb => upd_ne (by omega))
              have hvσg : vw 0 σg = μ := by rw [eσg, vw_out (by omega)]; first | exact hvσL | assumption
              have hcGN_σg : GN 5170 σg (km + 1) (ru gn km (rx (rts μ (gn (km - 1)) 6) to)) := GN.more hcGN_σL eσg
              refine g_aload_n h dX12_going_106 0 rfl ?_
              refine g_dup h dX12_going_107 rfl ?_
              refine g_geti h dX12_going_108 gX12_312 sc_0 rfl ?_
              refine g_top (y := (nI km)) (by first | exact ht5011_σg | assumption) ?_
              refine g_iconst h dX12_going_111 (by decide) ?_
              refine g_iaddN h dX12_going_112  ?_
              refine g_puti h dX12_going_113 pX12_312 sc_0 rfl ?_
              refine g_nm (fun σh eσh => ?_)
              have eσh : σh = upd σg 5011 (nI (km + 1)) := eσh
              have ht5011_σh : σh 5011 = (nI (km + 1)) := by rw [eσh]; exact upd_eq
              have hcFR_σh : ∀ a, ((a < 5150 ∨ 5180 ≤ a) ∧ a ≠ 5011) → σh a = σ a := by intro a ha; exact Eq.trans (b := σg a) (by rw [eσh, upd_ne (by first | omega | (simp only [vb] at *; omega))]) (hcFR_σg a ha)
              have hcRR_σh : RR σh (rts μ (gn (km - 1)) 6) := by rw [eσh]; exact RR.fr hcRR_σg (fun a ha hb => upd_ne (by omega))
              have hcGN_σh : GN 5170 σh (km + 1) (ru gn km (rx (rts μ (gn (km - 1)) 6) to)) := by rw [eσh]; exact GN.fr hcGN_σg (fun a ha hb => upd_ne (by omega))
              have hvσh : vw 0 σh = μ := by rw [eσh, vw_out (by omega)]; first | exact hvσg | assumption
              refine g_iload_n h dX12_going_116 3 rfl ?_
              refine g_iload h dX12_going_117 5 rfl ?_
              refine g_cspi (rest := []) h (r_has hW been (rx (rts μ (gn (km - 1)) 6) to) (by omega)) lX12_has mX12_65 (Nat.lt_of_lt_of_le (by decide) (Nat.le_refl _)) (by decide) rfl rfl rfl dX12_going_119 ?_
              refine g_ifB_eq h dX12_going_122 (fun c122 => ?_) (fun c122 => ?_)
              ·
                refine g_iload_n h dX12_going_127 3 rfl ?_
                refine g_iconst h dX12_going_128 (by decide) ?_
                refine g_iload h dX12_going_129 5 rfl ?_
                refine g_ishl h dX12_going_131  ?_
                refine g_top (y := bt1 (rx (rts μ (gn (km - 1)) 6) to)) rfl ?_
                refine g_ior h dX12_going_132  ?_
                refine g_istore_n (L' := [(0, .ref (w.1 0)), (1, .int (nI fr)), (2, .int (nI to)), (3, .int (been ||| (bt1 (rx (rts μ (gn (km - 1)) 6) to)))), (4, .int (nI (gn (km - 1)))), (5, .int (nI (rx (rts μ (gn (km - 1)) 6) to)))]) h dX12_going_133 rfl (by decide) rfl ?_
                refine g_goto h dX12_going_134 ?_
                exact g_sub [0, 1, 2, 3] rfl (ih16 (been ||| (bt1 (rx (rts μ (gn (km - 1)) 6) to))) (km + 1) (ru gn km (rx (rts μ (gn (km - 1)) 6) to)) σh (by exact GS.next hs c28 hst (by omega) (by omega) (by omega) c122) (by omega) (by intro q hq; exact if e9 : q = km then (by rw [e9, ru_eq]; exact hn8) else (by rw [ru_ne e9]; exact hgn q (by omega))) (by first | exact hvσh | assumption | fail | fail) (by first | exact ht5011_σh | assumption | fail | fail) (by first | exact hcFR_σh | assumption | fail | fail) (by first | exact hcGN_σh | assumption | fail | fail) (by omega))
              ·
                have hE : gnw μ fr to = (2, km + 1, ru gn km (rx (rts μ (gn (km - 1)) 6) to), been) := by rw [← hp.2.2]; exact goR_back hst hp.1 (by intro e9; rw [e9, hp.2.1] at c122; cases c122) c122
                refine g_iconst h dX12_going_125 (by decide) ?_
                exact g_iret h hQ dX12_going_126 (congrArg (fun z => some (Value.int z)) (show (nI ((gnw μ fr to).1)) = (nI 2) by rw [hE])) (by exact ⟨(by first | (rw [hE]; exact ht5011_σh) | (rw [hE.2.1]; exact ht5011_σh) | fail), (by first | (rw [hE]; exact hcGN_σh) | (rw [hE.2.1, hE.2.2]; exact hcGN_σh) | fail), (by exact hcFR_σh)⟩)
            ·
              have hE : gnw μ fr to = (1, km, gn, been) := by rw [← hp.2.2]; first | exact goR_none (stp_0 (by omega)) hp.1 | exact goR_none (stp_1 c73) hp.1 | exact goR_none (stp_2 c90) hp.1
              refine g_iconst h dX12_going_93 (by decide) ?_
              exact g_iret h hQ dX12_going_94 (congrArg (fun z => some (Value.int z)) (show (nI ((gnw μ fr to).1)) = (nI 1) by rw [hE])) (by exact ⟨(by first | (rw [hE]; exact ht5011_σL) | (rw [hE.2.1]; exact ht5011_σL) | fail), (by first | (rw [hE]; exact hcGN_σL) | (rw [hE.2.1, hE.2.2]; exact hcGN_σL) | fail), (by exact hcFR_σL)⟩)
  exact lp16 (_) (bt1 fr) 1 (fun _ => fr) σ_1 (by exact GS.init (by omega) (by omega) hne) (by omega) (by intro q _; exact hf) (by first | exact hvσ_1 | assumption | fail | fail) (by first | exact ht5011_σ_1 | assumption | fail | fail) (by first | exact hcFR_σ_1 | assumption | fail | fail) (by first | exact hcGN_σ_1 | assumption | fail | fail) (Nat.lt_succ_self _)
