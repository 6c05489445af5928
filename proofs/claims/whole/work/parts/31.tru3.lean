/-! backbones and cuts -/
def spn (μ : Nat → Int32) : Int32 := orS (fun i => if tb (μ 1) i = true then μ (48 + i) else nI 0) (nN μ) &&& μ 1
def jnd (μ : Nat → Int32) (s : Int32) : Bool := match fs (fun a => tb s a) 8 with
  | none => true
  | some n => decide (rch μ s n 7 = s)
def bkB (μ : Nat → Int32) (s : Int32) : Bool := decide (s &&& nots (μ 1) = 0) && decide (μ 1 &&& nots s &&& nots (prO μ s) = 0) && jnd μ s
/-- the class's smallest: the best so far, how many -/
def smB (μ : Nat → Int32) : Nat → Nat × Nat
  | 0 => (0, 9)
  | n + 1 => if (decide (pc (nI n) < (smB μ n).2) && bkB μ (nI n)) = true then (n, pc (nI n)) else smB μ n
def anyB (p : Nat → Bool) : Nat → Bool
  | 0 => false
  | n + 1 => anyB p n || p n
theorem anyB_iff {p : Nat → Bool} : ∀ {n : Nat}, anyB p n = true ↔ ∃ x, x < n ∧ p x = true
  | 0 => by
    constructor
    · intro h; cases h
    · rintro ⟨x, h, _⟩; exact absurd h (Nat.not_lt_zero _)
  | n + 1 => by
    simp only [anyB, Bool.or_eq_true]
    rw [anyB_iff]
    constructor
    · rintro (⟨x, h1, h2⟩ | h)
      · exact ⟨x, by omega, h2⟩
      · exact ⟨n, by omega, h⟩
    · rintro ⟨x, h1, h2⟩
      by_cases e : x = n
      · subst e
        exact Or.inr h2
      · exact Or.inl ⟨x, by omega, h2⟩
theorem anyB_f {p : Nat → Bool} {n : Nat} (h : ∀ x, x < n → p x = false) : anyB p n = false := by
  cases q : anyB p n with
  | false => rfl
  | true =>
    obtain ⟨x, h1, h2⟩ := anyB_iff.mp q
    rw [h x h1] at h2
    cases h2
def ctB (μ : Nat → Int32) (k a : Nat) : Bool := tb (wth (μ 1) k false) a && !decide (wth (rch μ (μ 1) a 7) k false = rch μ (wth (μ 1) k false) a 7)
def cut (μ : Nat → Int32) (k : Nat) : Bool := anyB (ctB μ k) 8
theorem smB_le {μ : Nat → Int32} : ∀ n, (smB μ n).1 < 256 ∨ 256 < n + 1
  | 0 => Or.inl (show 0 < 256 by decide)
  | n + 1 => by
    have ih := smB_le (μ := μ) n
    simp only [smB]
    split
    · exact (show n < 256 ∨ 256 < n + 1 + 1 by omega)
    · omega
theorem smB_9 {μ : Nat → Int32} : ∀ n, (smB μ n).2 ≤ 9
  | 0 => Nat.le_refl _
  | n + 1 => by
    have ih := smB_9 (μ := μ) n
    have := pc_le (nI n)
    simp only [smB]
    split
    · exact (show pc (nI n) ≤ 9 by omega)
    · exact ih

set_option maxRecDepth 100000 in
set_option maxHeartbeats 4000000 in
theorem c_joinedTo {l : Launch} {w : Wd} (hW : Wi w) {σ : Mem} (f : Nat) (z : Int32) (μ : Nat → Int32) (hf : f < 8) (hcTR_σ : TR σ μ) : MC l w qX10_joinedTo 2 [.ref (w.1 25), .int (nI f), .int z] σ (some (.int (rch μ z f 7))) (fun σ' => σ' = σ) := by
  refine MC.of hW (by decide +kernel) (Nat.le_of_ble_eq_true rfl) (fun X h hQ hnm => ?_)
  have h : Fx X w cX10_joinedTo 5 RX10 2 := h
  have hQ : Qx X w (some .int) (some (.int (rch μ z f 7))) (fun σ' => σ' = σ) := hQ
  show G X w 5 0 [(0, .ref (w.1 25)), (1, .int (nI f)), (2, .int z)] [] σ
  refine g_iload_n h dX10_joinedTo_0 1 rfl ?_
  refine g_cspi (rest := []) h (c_bit hW f ) lX5_bit mX10_40 (Nat.lt_of_lt_of_le (by decide) (Nat.le_refl _)) (by decide) rfl rfl rfl dX10_joinedTo_1 ?_
  refine g_istore_n (L' := [(0, .ref (w.1 25)), (1, .int (nI f)), (2, .int z), (3, .int (bt1 f))]) h dX10_joinedTo_4 rfl (by decide) rfl ?_
  refine g_iconst h dX10_joinedTo_5 (by decide) ?_
  refine g_istore (L' := [(0, .ref (w.1 25)), (1, .int (nI f)), (2, .int z), (3, .int (bt1 f)), (4, .int (nI 1))]) h dX10_joinedTo_6 rfl (by decide) rfl ?_
  have lp8 : ∀ (k9 : Nat) (s : Int32) (k : Nat), (k ≤ 7) → (s = rch μ z f k) → 7 - k < k9 → G X w 5 8 [(0, .ref (w.1 25)), (1, .int (nI f)), (2, .int z), (3, .int s), (4, .int (nI (k + 1)))] [] σ := by
    intro k9
    induction k9 with
    | zero => intro s k hk hs hm9; exact absurd hm9 (Nat.not_lt_zero _)
    | succ k9 ih8 =>
      intro s k hk hs hm8
      refine g_iload h dX10_joinedTo_8 4 rfl ?_
      refine g_bipush h dX10_joinedTo_10 (by decide) ?_
      refine g_icmpN_ge h dX10_joinedTo_12 (by omega) (by omega) (fun c12 => ?_) (fun c12 => ?_)
      ·
        refine g_iload_n h dX10_joinedTo_31 3 rfl ?_
        exact g_iret h hQ dX10_joinedTo_32 (congrArg (fun z => some (Value.int z)) (show (rch μ z f 7) = s by rw [hs, show k = 7 from by omega])) rfl
      ·
        refine g_iload_n h dX10_joinedTo_15 3 rfl ?_
        refine g_aload_n h dX10_joinedTo_16 0 rfl ?_
        refine g_iload_n h dX10_joinedTo_17 3 rfl ?_
        refine g_cvpi (rest := [.int s]) h (c_pairsOf hW s μ (by exact hcTR_σ.2.1)) lX10_pairsOf mX10_48 (Nat.lt_of_lt_of_le (by decide) (Nat.le_refl _)) (by decide) sc_25 rfl rfl rfl rfl dX10_joinedTo_18 ?_
        refine g_iload_n h dX10_joinedTo_21 2 rfl ?_
        refine g_iand h dX10_joinedTo_22  ?_
        refine g_ior h dX10_joinedTo_23  ?_
        refine g_istore_n (L' := [(0, .ref (w.1 25)), (1, .int (nI f)), (2, .int z), (3, .int (s ||| ((prO μ s) &&& z))), (4, .int (nI (k + 1)))]) h dX10_joinedTo_24 rfl (by decide) rfl ?_
        refine g_iincN (b := 1) (L' := [(0, .ref (w.1 25)), (1, .int (nI f)), (2, .int z), (3, .int (s ||| ((prO μ s) &&& z))), (4, .int (nI (k + 1 + 1)))]) h dX10_joinedTo_25 4 rfl rfl (by decide) (by decide) rfl ?_
        refine g_goto h dX10_joinedTo_28 ?_
        exact ih8 (s ||| ((prO μ s) &&& z)) (k + 1) (by omega) (by rw [hs]; rfl) (by omega)
  exact lp8 (_) (bt1 f) 0 (by omega) (by rfl) (Nat.lt_succ_self _)

set_option maxRecDepth 100000 in
set_option maxHeartbeats 4000000 in
theorem c_isJoined {l : Launch} {w : Wd} (hW : Wi w) {σ : Mem} (z : Int32) (μ : Nat → Int32) (hcTR_σ : TR σ μ) : MC l w qX10_isJoined 3 [.ref (w.1 25), .int z] σ (some (.int (b2i (jnd μ z)))) (fun σ' => σ' = σ) := by
  refine MC.of hW (by decide +kernel) (Nat.le_of_ble_eq_true rfl) (fun X h hQ hnm => ?_)
  have h : Fx X w cX10_isJoined 3 RX10 3 := h
  have hQ : Qx X w (some .boolean) (some (.int (b2i (jnd μ z)))) (fun σ' => σ' = σ) := hQ
  show G X w 3 0 [(0, .ref (w.1 25)), (1, .int z)] [] σ
  refine g_iconst h dX10_isJoined_0 (by decide) ?_
  refine g_istore_n (L' := [(0, .ref (w.1 25)), (1, .int z), (2, .int (nI 0))]) h dX10_isJoined_1 rfl (by decide) rfl ?_
  have lp2 : ∀ (k9 : Nat) (n : Nat), (n ≤ 8) → (∀ x, x < n → tb z x = false) → 8 - n < k9 → G X w 3 2 [(0, .ref (w.1 25)), (1, .int z), (2, .int (nI n))] [] σ := by
    intro k9
    induction k9 with
    | zero => intro n hn hno hm9; exact absurd hm9 (Nat.not_lt_zero _)
    | succ k9 ih2 =>
      intro n hn hno hm2
      refine g_iload_n h dX10_isJoined_2 2 rfl ?_
      refine g_bipush h dX10_isJoined_3 (by decide) ?_
      refine g_icmpN_ge h dX10_isJoined_5 (by omega) (by omega) (fun c5 => ?_) (fun c5 => ?_)
      ·
        refine g_iconst h dX10_isJoined_38 (by decide) ?_
        exact g_zret h hQ dX10_isJoined_39 (show narrow .boolean (.int (b2i true)) = .int (b2i true) from narrow_b2i _) (congrArg (fun z => some (Value.int (b2i z))) (show (jnd μ z) = true by first | (unfold jnd; rw [fs_here hno c13 8 (by omega)]; dsimp only; simp [c5]; done) | (unfold jnd; rw [fs_none (fun x hx => hno x (by omega))]) | fail)) rfl
      ·
        refine g_iload_n h dX10_isJoined_8 1 rfl ?_
        refine g_iload_n h dX10_isJoined_9 2 rfl ?_
        refine g_cspi (rest := []) h (c_has hW z n (by omega)) lX5_has mX10_28 (Nat.lt_of_lt_of_le (by decide) (Nat.le_refl _)) (by decide) rfl rfl rfl dX10_isJoined_10 ?_
        refine g_ifB_eq h dX10_isJoined_13 (fun c13 => ?_) (fun c13 => ?_)
        ·
          refine g_iincN (b := 1) (L' := [(0, .ref (w.1 25)), (1, .int z), (2, .int (nI (n + 1)))]) h dX10_isJoined_32 2 rfl rfl (by decide) (by decide) rfl ?_
          refine g_goto h dX10_isJoined_35 ?_
          exact ih2 (n + 1) (by omega) (by intro x hx; exact if e9 : x = n then (by rw [e9]; exact c13) else hno x (by omega)) (by omega)
        ·
          refine g_aload_n h dX10_isJoined_16 0 rfl ?_
          refine g_iload_n h dX10_isJoined_17 2 rfl ?_
          refine g_iload_n h dX10_isJoined_18 1 rfl ?_
          refine g_cvpi (rest := []) h (c_joinedTo hW n z μ (by omega) (by first | exact hcTR_σ | assumption | fail)) lX10_joinedTo mX10_51 (Nat.lt_of_lt_of_le (by decide) (Nat.le_refl _)) (by decide) sc_25 rfl rfl rfl rfl dX10_isJoined_19 ?_
          refine g_iload_n h dX10_isJoined_22 1 rfl ?_
          refine g_icmp_ne h dX10_isJoined_23 (fun c23 => ?_) (fun c23 => ?_)
          ·
            refine g_iconst h dX10_isJoined_30 (by decide) ?_
            exact g_zret h hQ dX10_isJoined_31 (show narrow .boolean (.int (b2i false)) = .int (b2i false) from narrow_b2i _) (congrArg (fun z => some (Value.int (b2i z))) (show (jnd μ z) = false by first | (unfold jnd; rw [fs_here hno c13 8 (by omega)]; dsimp only; simp [c5, c13, c23]; done) | (unfold jnd; rw [fs_none (fun x hx => hno x (by omega))]) | fail)) rfl
          ·
            refine g_iconst h dX10_isJoined_26 (by decide) ?_
            refine g_goto h dX10_isJoined_27 ?_
            exact g_zret h hQ dX10_isJoined_31 (show narrow .boolean (.int (b2i true)) = .int (b2i true) from narrow_b2i _) (congrArg (fun z => some (Value.int (b2i z))) (show (jnd μ z) = true by first | (unfold jnd; rw [fs_here hno c13 8 (by omega)]; dsimp only; simp [c5, c13, c23]; done) | (unfold jnd; rw [fs_none (fun x hx => hno x (by omega))]) | fail)) rfl
  exact lp2 (_) 0 (by omega) (by intro x hx; omega) (Nat.lt_succ_self _)

set_option maxRecDepth 100000 in
set_option maxHeartbeats 4000000 in
theorem c_isBack {l : Launch} {w : Wd} (hW : Wi w) {σ : Mem} (z : Int32) (μ : Nat → Int32) (hcTR_σ : TR σ μ) : MC l w qX10_isBack 4 [.ref (w.1 25), .int z] σ (some (.int (b2i (bkB μ z)))) (fun σ' => σ' = σ) := by
  refine MC.of hW (by decide +kernel) (Nat.le_of_ble_eq_true rfl) (fun X h hQ hnm => ?_)
  have h : Fx X w cX10_isBack 2 RX10 4 := h
  have hQ : Qx X w (some .boolean) (some (.int (b2i (bkB μ z)))) (fun σ' => σ' = σ) := hQ
  show G X w 2 0 [(0, .ref (w.1 25)), (1, .int z)] [] σ
  refine g_iload_n h dX10_isBack_0 1 rfl ?_
  refine g_aload_n h dX10_isBack_1 0 rfl ?_
  refine g_geti h dX10_isBack_2 gX10_24 sc_25 rfl ?_
  refine g_top (y := (μ 1)) hcTR_σ.1 ?_
  refine g_iconstv h dX10_isBack_5 (v := (-1)) (by decide) ?_
  refine g_ixor h dX10_isBack_6  ?_
  refine g_top (y := nots (μ 1)) rfl ?_
  refine g_iand h dX10_isBack_7  ?_
  refine g_if_ne h dX10_isBack_8 (fun c8 => ?_) (fun c8 => ?_)
  ·
    refine g_iconst h dX10_isBack_42 (by decide) ?_
    exact g_zret h hQ dX10_isBack_43 (show narrow .boolean (.int (b2i false)) = .int (b2i false) from narrow_b2i _) (congrArg (fun z => some (Value.int (b2i z))) (show (bkB μ z) = false by simp [bkB, c8])) rfl
  ·
    refine g_aload_n h dX10_isBack_11 0 rfl ?_
    refine g_geti h dX10_isBack_12 gX10_24 sc_25 rfl ?_
    refine g_top (y := (μ 1)) hcTR_σ.1 ?_
    refine g_iload_n h dX10_isBack_15 1 rfl ?_
    refine g_iconstv h dX10_isBack_16 (v := (-1)) (by decide) ?_
    refine g_ixor h dX10_isBack_17  ?_
    refine g_top (y := nots z) rfl ?_
    refine g_iand h dX10_isBack_18  ?_
    refine g_aload_n h dX10_isBack_19 0 rfl ?_
    refine g_iload_n h dX10_isBack_20 1 rfl ?_
    refine g_cvpi (rest := [.int ((μ 1) &&& (nots z))]) h (c_pairsOf hW z μ (by exact hcTR_σ.2.1)) lX10_pairsOf mX10_48 (Nat.lt_of_lt_of_le (by decide) (Nat.le_refl _)) (by decide) sc_25 rfl rfl rfl rfl dX10_isBack_21 ?_
    refine g_iconstv h dX10_isBack_24 (v := (-1)) (by decide) ?_
    refine g_ixor h dX10_isBack_25  ?_
    refine g_top (y := nots (prO μ z)) rfl ?_
    refine g_iand h dX10_isBack_26  ?_
    refine g_if_ne h dX10_isBack_27 (fun c27 => ?_) (fun c27 => ?_)
    ·
      refine g_iconst h dX10_isBack_42 (by decide) ?_
      exact g_zret h hQ dX10_isBack_43 (show narrow .boolean (.int (b2i false)) = .int (b2i false) from narrow_b2i _) (congrArg (fun z => some (Value.int (b2i z))) (show (bkB μ z) = false by simp [bkB, c8, c27])) rfl
    ·
      refine g_aload_n h dX10_isBack_30 0 rfl ?_
      refine g_iload_n h dX10_isBack_31 1 rfl ?_
      refine g_cvpi (rest := []) h (c_isJoined hW z μ (by first | exact hcTR_σ | assumption | fail)) lX10_isJoined mX10_54 (Nat.lt_of_lt_of_le (by decide) (Nat.le_refl _)) (by decide) sc_25 rfl rfl rfl rfl dX10_isBack_32 ?_
      refine g_ifB_eq h dX10_isBack_35 (fun c35 => ?_) (fun c35 => ?_)
      ·
        refine g_iconst h dX10_isBack_42 (by decide) ?_
        exact g_zret h hQ dX10_isBack_43 (show narrow .boolean (.int (b2i false)) = .int (b2i false) from narrow_b2i _) (congrArg (fun z => some (Value.int (b2i z))) (show (bkB μ z) = false by simp [bkB, c8, c27, c35])) rfl
      ·
        refine g_iconst h dX10_isBack_38 (by decide) ?_
        refine g_goto h dX10_isBack_39 ?_
        exact g_zret h hQ dX10_isBack_43 (show narrow .boolean (.int (b2i true)) = .int (b2i true) from narrow_b2i _) (congrArg (fun z => some (Value.int (b2i z))) (show (bkB μ z) = true by simp [bkB, c8, c27, c35])) rfl

set_option maxRecDepth 100000 in
set_option maxHeartbeats 4000000 in
theorem c_smallestBack {l : Launch} {w : Wd} (hW : Wi w) {σ : Mem} (μ : Nat → Int32) (hcTR_σ : TR σ μ) : MC l w qX10_smallestBack 5 [.ref (w.1 25)] σ (some (.int (nI ((smB μ 256).1)))) (fun σ' => σ' = σ) := by
  refine MC.of hW (by decide +kernel) (Nat.le_of_ble_eq_true rfl) (fun X h hQ hnm => ?_)
  have h : Fx X w cX10_smallestBack 4 RX10 5 := h
  have hQ : Qx X w (some .int) (some (.int (nI ((smB μ 256).1)))) (fun σ' => σ' = σ) := hQ
  show G X w 4 0 [(0, .ref (w.1 25))] [] σ
  refine g_iconst h dX10_smallestBack_0 (by decide) ?_
  refine g_istore_n (L' := [(0, .ref (w.1 25)), (1, .int (nI 0))]) h dX10_smallestBack_1 rfl (by decide) rfl ?_
  refine g_bipush h dX10_smallestBack_2 (by decide) ?_
  refine g_istore_n (L' := [(0, .ref (w.1 25)), (1, .int (nI 0)), (2, .int (nI 9))]) h dX10_smallestBack_4 rfl (by decide) rfl ?_
  refine g_iconst h dX10_smallestBack_5 (by decide) ?_
  refine g_istore_n (L' := [(0, .ref (w.1 25)), (1, .int (nI 0)), (2, .int (nI 9)), (3, .int (nI 0))]) h dX10_smallestBack_6 rfl (by decide) rfl ?_
  have lp7 : ∀ (k9 : Nat) (b : Nat) (q : Nat) (n : Nat), (smB μ n = (b, q)) → (n ≤ 256) → (q ≤ 9) → 256 - n < k9 → G X w 4 7 [(0, .ref (w.1 25)), (1, .int (nI b)), (2, .int (nI q)), (3, .int (nI n))] [] σ := by
    intro k9
    induction k9 with
    | zero => intro b q n hs hn hq hm9; exact absurd hm9 (Nat.not_lt_zero _)
    | succ k9 ih7 =>
      intro b q n hs hn hq hm7
      refine g_iload_n h dX10_smallestBack_7 3 rfl ?_
      refine g_sipush h dX10_smallestBack_8 (by decide) ?_
      refine g_icmpN_ge h dX10_smallestBack_11 (by omega) (by omega) (fun c11 => ?_) (fun c11 => ?_)
      ·
        refine g_iload_n h dX10_smallestBack_43 1 rfl ?_
        exact g_iret h hQ dX10_smallestBack_44 (congrArg (fun z => some (Value.int z)) (show (nI ((smB μ 256).1)) = (nI b) by rw [show (256 : Nat) = n from by omega, hs])) rfl
      ·
        refine g_iload_n h dX10_smallestBack_14 3 rfl ?_
        refine g_cspi (rest := []) h (j_bcN hW n (by omega)) lJ6_bitCount_0f7a4 mX10_58 (Nat.lt_of_lt_of_le (by decide) (Nat.le_refl _)) (by decide) rfl rfl rfl dX10_smallestBack_15 ?_
        have p9_15 := pc_le (nI n)
        have hp9 := pc_le (nI n)
        refine g_iload_n h dX10_smallestBack_18 2 rfl ?_
        refine g_icmpN_ge h dX10_smallestBack_19 (by omega) (by omega) (fun c19 => ?_) (fun c19 => ?_)
        ·
          refine g_iincN (b := 1) (L' := [(0, .ref (w.1 25)), (1, .int (nI b)), (2, .int (nI q)), (3, .int (nI (n + 1)))]) h dX10_smallestBack_37 3 rfl rfl (by decide) (by decide) rfl ?_
          refine g_goto h dX10_smallestBack_40 ?_
          exact ih7 b q (n + 1) (by simp only [smB, hs]; first | (simp [c11, c19]; done) | (simp [c11, c19]; omega)) (by omega) (by first | exact hq | (have := pc_le (nI n); omega) | fail | fail) (by omega)
        ·
          refine g_aload_n h dX10_smallestBack_22 0 rfl ?_
          refine g_iload_n h dX10_smallestBack_23 3 rfl ?_
          refine g_cvpi (rest := []) h (c_isBack hW (nI n) μ (by first | exact hcTR_σ | assumption | fail)) lX10_isBack mX10_63 (Nat.lt_of_lt_of_le (by decide) (Nat.le_refl _)) (by decide) sc_25 rfl rfl rfl rfl dX10_smallestBack_24 ?_
          refine g_ifB_eq h dX10_smallestBack_27 (fun c27 => ?_) (fun c27 => ?_)
          ·
            refine g_iincN (b := 1) (L' := [(0, .ref (w.1 25)), (1, .int (nI b)), (2, .int (nI q)), (3, .int (nI (n + 1)))]) h dX10_smallestBack_37 3 rfl rfl (by decide) (by decide) rfl ?_
            refine g_goto h dX10_smallestBack_40 ?_
            exact ih7 b q (n + 1) (by simp only [smB, hs]; first | (simp [c11, c19, c27]; done) | (simp [c11, c19, c27]; omega)) (by omega) (by first | exact hq | (have := pc_le (nI n); omega) | fail | fail) (by omega)
          ·
            refine g_iload_n h dX10_smallestBack_30 3 rfl ?_
            refine g_istore_n (L' := [(0, .ref (w.1 25)), (1, .int (nI n)), (2, .int (nI q)), (3, .int (nI n))]) h dX10_smallestBack_31 rfl (by decide) rfl ?_
            refine g_iload_n h dX10_smallestBack_32 3 rfl ?_
            refine g_cspi (rest := []) h (j_bcN hW n (by omega)) lJ6_bitCount_0f7a4 mX10_58 (Nat.lt_of_lt_of_le (by decide) (Nat.le_refl _)) (by decide) rfl rfl rfl dX10_smallestBack_33 ?_
            have p9_33 := pc_le (nI n)
            refine g_istore_n (L' := [(0, .ref (w.1 25)), (1, .int (nI n)), (2, .int (nI (pc (nI n)))), (3, .int (nI n))]) h dX10_smallestBack_36 rfl (by decide) rfl ?_
            refine g_iincN (b := 1) (L' := [(0, .ref (w.1 25)), (1, .int (nI n)), (2, .int (nI (pc (nI n)))), (3, .int (nI (n + 1)))]) h dX10_smallestBack_37 3 rfl rfl (by decide) (by decide) rfl ?_
            refine g_goto h dX10_smallestBack_40 ?_
            exact ih7 n (pc (nI n)) (n + 1) (by simp only [smB, hs]; first | (simp [c11, c19, c27]; done) | (simp [c11, c19, c27]; omega)) (by omega) (by first | exact hq | (have := pc_le (nI n); omega) | fail | fail) (by omega)
  exact lp7 (_) 0 9 0 (by rfl) (by omega) (by omega) (Nat.lt_succ_self _)

set_option maxRecDepth 100000 in
set_option maxHeartbeats 4000000 in
theorem c_isCut {l : Launch} {w : Wd} (hW : Wi w) {σ : Mem} (k : Nat) (μ : Nat → Int32) (hk : k < 8) (hcTR_σ : TR σ μ) : MC l w qX10_isCut 3 [.ref (w.1 25), .int (nI k)] σ (some (.int (b2i (cut μ k)))) (fun σ' => σ' = σ) := by
  refine MC.of hW (by decide +kernel) (Nat.le_of_ble_eq_true rfl) (fun X h hQ hnm => ?_)
  have h : Fx X w cX10_isCut 5 RX10 3 := h
  have hQ : Qx X w (some .boolean) (some (.int (b2i (cut μ k)))) (fun σ' => σ' = σ) := hQ
  show G X w 5 0 [(0, .ref (w.1 25)), (1, .int (nI k))] [] σ
  refine g_aload_n h dX10_isCut_0 0 rfl ?_
  refine g_geti h dX10_isCut_1 gX10_24 sc_25 rfl ?_
  refine g_top (y := (μ 1)) hcTR_σ.1 ?_
  refine g_iload_n h dX10_isCut_4 1 rfl ?_
  refine g_iconst h dX10_isCut_5 (by decide) ?_
  refine g_cspi (rest := []) h (c_with hW (μ 1) k false ) lX5_with mX10_32 (Nat.lt_of_lt_of_le (by decide) (Nat.le_refl _)) (by decide) rfl rfl rfl dX10_isCut_6 ?_
  refine g_istore_n (L' := [(0, .ref (w.1 25)), (1, .int (nI k)), (2, .int (wth (μ 1) k false))]) h dX10_isCut_9 rfl (by decide) rfl ?_
  refine g_iconst h dX10_isCut_10 (by decide) ?_
  refine g_istore_n (L' := [(0, .ref (w.1 25)), (1, .int (nI k)), (2, .int (wth (μ 1) k false)), (3, .int (nI 0))]) h dX10_isCut_11 rfl (by decide) rfl ?_
  have lp12 : ∀ (k9 : Nat) (a : Nat), (a ≤ 8) → (∀ x, x < a → ctB μ k x = false) → 8 - a < k9 → G X w 5 12 [(0, .ref (w.1 25)), (1, .int (nI k)), (2, .int (wth (μ 1) k false)), (3, .int (nI a))] [] σ := by
    intro k9
    induction k9 with
    | zero => intro a ha hno hm9; exact absurd hm9 (Nat.not_lt_zero _)
    | succ k9 ih12 =>
      intro a ha hno hm12
      refine g_iload_n h dX10_isCut_12 3 rfl ?_
      refine g_bipush h dX10_isCut_13 (by decide) ?_
      refine g_icmpN_ge h dX10_isCut_15 (by omega) (by omega) (fun c15 => ?_) (fun c15 => ?_)
      ·
        refine g_iconst h dX10_isCut_61 (by decide) ?_
        exact g_zret h hQ dX10_isCut_62 (show narrow .boolean (.int (b2i false)) = .int (b2i false) from narrow_b2i _) (congrArg (fun z => some (Value.int (b2i z))) (show (cut μ k) = false by first | exact anyB_iff.mpr ⟨a, by omega, by simp [ctB, c15]⟩ | exact anyB_f (fun x hx => hno x (by omega)) | fail)) rfl
      ·
        refine g_iload_n h dX10_isCut_18 2 rfl ?_
        refine g_iload_n h dX10_isCut_19 3 rfl ?_
        refine g_cspi (rest := []) h (c_has hW (wth (μ 1) k false) a (by omega)) lX5_has mX10_28 (Nat.lt_of_lt_of_le (by decide) (Nat.le_refl _)) (by decide) rfl rfl rfl dX10_isCut_20 ?_
        refine g_ifB_eq h dX10_isCut_23 (fun c23 => ?_) (fun c23 => ?_)
        ·
          refine g_iincN (b := 1) (L' := [(0, .ref (w.1 25)), (1, .int (nI k)), (2, .int (wth (μ 1) k false)), (3, .int (nI (a + 1)))]) h dX10_isCut_55 3 rfl rfl (by decide) (by decide) rfl ?_
          refine g_goto h dX10_isCut_58 ?_
          exact ih12 (a + 1) (by omega) (by intro x hx; exact if e9 : x = a then (by rw [e9]; simp [ctB, c15, c23]) else hno x (by omega)) (by omega)
        ·
          refine g_aload_n h dX10_isCut_26 0 rfl ?_
          refine g_iload_n h dX10_isCut_27 3 rfl ?_
          refine g_aload_n h dX10_isCut_28 0 rfl ?_
          refine g_geti h dX10_isCut_29 gX10_24 sc_25 rfl ?_
          refine g_top (y := (μ 1)) hcTR_σ.1 ?_
          refine g_cvpi (rest := []) h (c_joinedTo hW a (μ 1) μ (by omega) (by first | exact hcTR_σ | assumption | fail)) lX10_joinedTo mX10_51 (Nat.lt_of_lt_of_le (by decide) (Nat.le_refl _)) (by decide) sc_25 rfl rfl rfl rfl dX10_isCut_32 ?_
          refine g_iload_n h dX10_isCut_35 1 rfl ?_
          refine g_iconst h dX10_isCut_36 (by decide) ?_
          refine g_cspi (rest := []) h (c_with hW (rch μ (μ 1) a 7) k false ) lX5_with mX10_32 (Nat.lt_of_lt_of_le (by decide) (Nat.le_refl _)) (by decide) rfl rfl rfl dX10_isCut_37 ?_
          refine g_istore (L' := [(0, .ref (w.1 25)), (1, .int (nI k)), (2, .int (wth (μ 1) k false)), (3, .int (nI a)), (4, .int (wth (rch μ (μ 1) a 7) k false))]) h dX10_isCut_40 rfl (by decide) rfl ?_
          refine g_iload h dX10_isCut_42 4 rfl ?_
          refine g_aload_n h dX10_isCut_44 0 rfl ?_
          refine g_iload_n h dX10_isCut_45 3 rfl ?_
          refine g_iload_n h dX10_isCut_46 2 rfl ?_
          refine g_cvpi (rest := [.int (wth (rch μ (μ 1) a 7) k false)]) h (c_joinedTo hW a (wth (μ 1) k false) μ (by omega) (by first | exact hcTR_σ | assumption | fail)) lX10_joinedTo mX10_51 (Nat.lt_of_lt_of_le (by decide) (Nat.le_refl _)) (by decide) sc_25 rfl rfl rfl rfl dX10_isCut_47 ?_
          refine g_icmp_eq h dX10_isCut_50 (fun c50 => ?_) (fun c50 => ?_)
          ·
            refine g_iincN (b := 1) (L' := [(0, .ref (w.1 25)), (1, .int (nI k)), (2, .int (wth (μ 1) k false)), (3, .int (nI (a + 1))), (4, .int (wth (rch μ (μ 1) a 7) k false))]) h dX10_isCut_55 3 rfl rfl (by decide) (by decide) rfl ?_
            refine g_goto h dX10_isCut_58 ?_
            exact g_sub [0, 1, 2, 3] rfl (ih12 (a + 1) (by omega) (by intro x hx; exact if e9 : x = a then (by rw [e9]; simp [ctB, c15, c23, c50]) else hno x (by omega)) (by omega))
          ·
            refine g_iconst h dX10_isCut_53 (by decide) ?_
            exact g_zret h hQ dX10_isCut_54 (show narrow .boolean (.int (b2i true)) = .int (b2i true) from narrow_b2i _) (congrArg (fun z => some (Value.int (b2i z))) (show (cut μ k) = true by first | exact anyB_iff.mpr ⟨a, by omega, by simp [ctB, c15, c23, c50]⟩ | exact anyB_f (fun x hx => hno x (by omega)) | fail)) rfl
  exact lp12 (_) 0 (by omega) (by intro x hx; omega) (Nat.lt_succ_self _)
