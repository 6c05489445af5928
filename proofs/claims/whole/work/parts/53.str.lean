/-! texts that the code holds as constants: their lengths, their signs -/
section GS
variable {X : GX} {w : Wd} {cc : ByteArray} {n pc pc' d : Nat} {own : String} {L : List (Nat × Value)} {st : List Value} {σ : Mem}
theorem g_ldcS {idx i : Nat} (h : Fx X w cc n own d) (dd : Dx cc pc (.ldc idx) 2 pc') (hi : i < 9) (ho9 : jsOwn i = own) (hx9 : jsIdx i = idx) (k : G X w n pc' L (.ref (w.2.2.2.1 i) :: st) σ) : G X w n pc L st σ := by
  obtain ⟨p, l, e, R, s, m, args, below, meth, c, Q⟩ := X
  obtain ⟨hx, hb, hml, ho, hts, hlk, hR, hK, hW⟩ := h
  obtain ⟨hd, rfl⟩ := dd
  subst ho9
  subst hx9
  intro H locs ls hH hS hl
  exact va_ldcS hx hb ho (hK.2.2.1 i hi) hd (k H locs ls hH hS hl)
theorem g_gcs {idx : Nat} (h : Fx X w cc n own d) (dd : Dx cc pc (.getstatic idx) 3 pc') (hlk : Cond.fieldLink own idx "java/lang/String" "COMPACT_STRINGS" "Z" ∈ lw_tbl) (k : G X w n pc' L (.int (nI 1) :: st) σ) : G X w n pc L st σ := by
  obtain ⟨p, l, e, R, s, m, args, below, meth, c, Q⟩ := X
  obtain ⟨hx, hb, hml, ho, hts, hlks, hR, hK, hW⟩ := h
  obtain ⟨hd, rfl⟩ := dd
  intro H locs ls hH hS hl
  exact va_gets hx hb hK.2.2.2.1 hS ho (hts _ hlk rfl) (fun _ q => q) hd (k H locs ls hH hS hl)
theorem g_gfm {idx : Nat} (h : Fx X w cc n own d) (dd : Dx cc pc (.getstatic idx) 3 pc') (hlk : Cond.fieldLink own idx "jdk/internal/util/Preconditions" "SIOOBE_FORMATTER" "Ljava/util/function/BiFunction;" ∈ lw_tbl) (k : ∀ v : Value, v.category = 1 → G X w n pc' L (v :: st) σ) : G X w n pc L st σ := by
  obtain ⟨p, l, e, R, s, m, args, below, meth, c, Q⟩ := X
  obtain ⟨hx, hb, hml, ho, hts, hlks, hR, hK, hW⟩ := h
  obtain ⟨hd, rfl⟩ := dd
  intro H locs ls hH hS hl
  rcases hK.2.2.2.2 with hZ | ⟨t, hZ⟩
  · exact va_gets hx hb hZ hS ho (hts _ hlk rfl) (fun _ q => q) hd (k _ rfl H locs ls hH hS hl)
  · exact va_gets hx hb hZ hS ho (hts _ hlk rfl) (fun _ q => q) hd (k _ rfl H locs ls hH hS hl)
theorem g_sval {idx i : Nat} (h : Fx X w cc n own d) (dd : Dx cc pc (.getfield idx) 3 pc') (hi : i < 9) (hlk : Cond.fieldLink own idx "java/lang/String" "value" "[B" ∈ lw_tbl) (k : G X w n pc' L (.ref (w.2.2.2.2 i) :: st) σ) : G X w n pc L (.ref (w.2.2.2.1 i) :: st) σ := by
  obtain ⟨p, l, e, R, s, m, args, below, meth, c, Q⟩ := X
  obtain ⟨hx, hb, hml, ho, hts, hlks, hR, hK, hW⟩ := h
  obtain ⟨hd, rfl⟩ := dd
  intro H locs ls hH hS hl
  exact vk_getf hx hb (hK.2.1.1 i hi).2.2.1 hS ho (hts _ hlk rfl) (fun _ q => q) hd (k H locs ls hH hS hl)
theorem g_scod {idx i : Nat} (h : Fx X w cc n own d) (dd : Dx cc pc (.getfield idx) 3 pc') (hi : i < 9) (hlk : Cond.fieldLink own idx "java/lang/String" "coder" "B" ∈ lw_tbl) (k : G X w n pc' L (.int (nI 0) :: st) σ) : G X w n pc L (.ref (w.2.2.2.1 i) :: st) σ := by
  obtain ⟨p, l, e, R, s, m, args, below, meth, c, Q⟩ := X
  obtain ⟨hx, hb, hml, ho, hts, hlks, hR, hK, hW⟩ := h
  obtain ⟨hd, rfl⟩ := dd
  intro H locs ls hH hS hl
  exact vk_getf hx hb (hK.2.1.1 i hi).2.1 hS ho (hts _ hlk rfl) (fun _ q => q) hd (k H locs ls hH hS hl)
def sl (i : Nat) : Nat := jsLen.getD i 0
def sc (i j : Nat) : Nat := ((jsByt.getD i []).getD j 0).toNatClampNeg
theorem sl_all : (List.range 9).all (fun i => decide (sl i < 40) && decide (0 < sl i) && (List.range (sl i)).all (fun j => decide (sc i j < 128) && decide ((jsByt.getD i []).getD j 0 = nI (sc i j)))) = true := by decide +kernel
theorem sl_i {i : Nat} (hi : i < 9) : sl i < 40 ∧ 0 < sl i := by
  have h := List.all_eq_true.mp sl_all i (List.mem_range.mpr hi)
  simp only [Bool.and_eq_true, decide_eq_true_eq] at h
  exact h.1
theorem sc_i {i j : Nat} (hi : i < 9) (hj : j < sl i) : sc i j < 128 ∧ (jsByt.getD i []).getD j 0 = nI (sc i j) := by
  have h := List.all_eq_true.mp sl_all i (List.mem_range.mpr hi)
  simp only [Bool.and_eq_true, decide_eq_true_eq] at h
  have h2 := List.all_eq_true.mp h.2 j (List.mem_range.mpr hj)
  simp only [Bool.and_eq_true, decide_eq_true_eq] at h2
  exact h2
theorem g_slen {i : Nat} (h : Fx X w cc n own d) (dd : Dx cc pc .arraylength 1 pc') (hi : i < 9) (k : G X w n pc' L (.int (nI (sl i)) :: st) σ) : G X w n pc L (.ref (w.2.2.2.2 i) :: st) σ := by
  obtain ⟨p, l, e, R, s, m, args, below, meth, c, Q⟩ := X
  obtain ⟨hx, hb, hml, ho, hts, hlks, hR, hK, hW⟩ := h
  obtain ⟨hd, rfl⟩ := dd
  intro H locs ls hH hS hl
  exact va_tlen hx hb (ty := .byte) (hK.2.1.1 i hi).2.2.2 hS (v := nI (sl i)) rfl hd (k H locs ls hH hS hl)
theorem g_sbld {i j : Nat} (h : Fx X w cc n own d) (dd : Dx cc pc .baload 1 pc') (hi : i < 9) (hj : j < sl i) (k : G X w n pc' L (.int (nI (sc i j)) :: st) σ) : G X w n pc L (.int (nI j) :: .ref (w.2.2.2.2 i) :: st) σ := by
  obtain ⟨p, l, e, R, s, m, args, below, meth, c, Q⟩ := X
  obtain ⟨hx, hb, hml, ho, hts, hlks, hR, hK, hW⟩ := h
  obtain ⟨hd, rfl⟩ := dd
  have hs := sl_i hi
  intro H locs ls hH hS hl
  exact va_tb hx hb (hK.2.1.1 i hi).2.2.2 hS (vp_in_nI hj (show sl i < 2 ^ 31 by omega)) (v := .int (nI (sc i j))) (by rw [nI_clamp (show j < 2 ^ 31 by omega)]; exact congrArg Value.int (sc_i hi hj).2) hd (k H locs ls hH hS hl)
/-- a call of a text -/
theorem g_cvS {q : Mq} {d' idx np i : Nat} {As rest : List Value} {v : Option Value} {P : Mem → Prop} (h : Fx X w cc n own d) (hM : MC X.2.1 w q d' (.ref (w.2.2.2.1 i) :: As) σ v P) (hq : LmV q np) (hlk : Cond.methodLink own idx q.1 ∈ lw_tbl) (hd : d' < d) (hmax : q.2.2.1 < 18)
    (hi : i < 9) (hcl : q.1.cls = "java/lang/String") (hn : As.length = np) (hst : st = As.reverse ++ .ref (w.2.2.2.1 i) :: rest) (hrest : Nat.ble (rest.map fun v => v.category).sum 8 = true) (dd : Dx cc pc (.invokevirtual idx) 3 pc')
    (k : ∀ σ', P σ' → G X w n pc' L (v.toList ++ rest) σ') : G X w n pc L st σ := by
  subst hst
  obtain ⟨p, l, e, R, s, m, args, below, meth, c, Q⟩ := X
  obtain ⟨hx, hb, hml, ho, hts, hlks, hR, hK, hW⟩ := h
  obtain ⟨hdd, rfl⟩ := dd
  obtain ⟨hc1, hc2, hc3, hc4, hc5, hc6, hc7⟩ := hq
  intro H locs ls hH hS hl
  have hR' : R = rmN d := hR
  subst hR'
  have hcell := vk_recv hK.2.1 hi hS
  rw [← hcl] at hcell
  exact g_back (va_runV (Ts := lw_tbl.filter goodWord) (C := q.1.cls) (n := np) ⟨hx, hb, hml, ho, fun c hc => hts c (List.mem_filter.mp hc).1 (List.mem_filter.mp hc).2⟩ hM
      ⟨⟨rfl, rfl, hd, by show 8 + (q.2.2.1 + 11) + 36 * d' ≤ 36 * d; omega, wsq_ok hts hc1, List.mem_cons_self, hts _ hc1 rfl, hts _ hc4 rfl, ⟨hc5, hc6⟩, sq_len hc7, hts _ hlk rfl⟩, hts _ hc2 rfl, hts _ hc3 rfl⟩
      ⟨mc_blind, hcell, fun U hU hWU => ⟨rfl, by rw [hU]; exact hH, hK.warm hWU hS hU⟩⟩ rfl hn hl.1 rfl (lv_room (Nat.le_of_ble_eq_true hrest)) hdd ⟨Nat.zero_le _, Nat.zero_le _⟩) hS
    (fun σ' H1 locs1 hP hH1 hS1 => k σ' hP H1 locs1 ls hH1 hS1 hl)
theorem g_cSpi {q : Mq} {d' idx np i : Nat} {As rest : List Value} {r : Int32} (h : Fx X w cc n own d) (hM : MC X.2.1 w q d' (.ref (w.2.2.2.1 i) :: As) σ (some (.int r)) (fun σ' => σ' = σ)) (hq : LmV q np) (hlk : Cond.methodLink own idx q.1 ∈ lw_tbl) (hd : d' < d) (hmax : q.2.2.1 < 18) (hi : i < 9) (hcl : q.1.cls = "java/lang/String") (hn : As.length = np) (hst : st = As.reverse ++ .ref (w.2.2.2.1 i) :: rest) (hrest : Nat.ble (rest.map fun v => v.category).sum 8 = true) (dd : Dx cc pc (.invokevirtual idx) 3 pc')
    (k : G X w n pc' L (.int r :: rest) σ) : G X w n pc L st σ := g_cvS h hM hq hlk hd hmax hi hcl hn hst hrest dd (fun σ' e => by rw [e]; exact k)
end GS
theorem j_coder {l : Launch} {w : Wd} (hW : Wi w) {σ : Mem} (i : Nat) (hi : i < 9) : MC l w qJ0_coder_7d493 0 [.ref (w.2.2.2.1 i)] σ (some (.int (nI 0))) (fun σ' => σ' = σ) := by
  refine MC.ofF hW (by decide +kernel) (Nat.le_of_ble_eq_true rfl) (fun X h hQ hnm => ?_)
  have h : Fx X w cJ0_coder_7d493 1 RJ0 0 := h
  have hQ : Qx X w (some .byte) (some (.int (nI 0))) (fun σ' => σ' = σ) := hQ
  show G X w 1 0 [(0, .ref (w.2.2.2.1 i))] [] σ
  refine g_gcs h dJ0_coder_7d493_0 fJ0_38 ?_
  refine g_ifN_eq h dJ0_coder_7d493_3 (by decide) (fun c3 => absurd c3 (by decide)) (fun c3 => ?_)
  refine g_aload_n h dJ0_coder_7d493_6 0 rfl ?_
  refine g_scod h dJ0_coder_7d493_7 hi fJ0_15 ?_
  refine g_goto h dJ0_coder_7d493_10 ?_
  exact g_zret h hQ dJ0_coder_7d493_14 rfl rfl rfl
theorem j_isL {l : Launch} {w : Wd} (hW : Wi w) {σ : Mem} (i : Nat) (hi : i < 9) : MC l w qJ0_isLatin1_aae02 0 [.ref (w.2.2.2.1 i)] σ (some (.int (nI 1))) (fun σ' => σ' = σ) := by
  refine MC.ofF hW (by decide +kernel) (Nat.le_of_ble_eq_true rfl) (fun X h hQ hnm => ?_)
  have h : Fx X w cJ0_isLatin1_aae02 1 RJ0 0 := h
  have hQ : Qx X w (some .boolean) (some (.int (nI 1))) (fun σ' => σ' = σ) := hQ
  show G X w 1 0 [(0, .ref (w.2.2.2.1 i))] [] σ
  refine g_gcs h dJ0_isLatin1_aae02_0 fJ0_38 ?_
  refine g_ifN_eq h dJ0_isLatin1_aae02_3 (by decide) (fun c3 => absurd c3 (by decide)) (fun c3 => ?_)
  refine g_aload_n h dJ0_isLatin1_aae02_6 0 rfl ?_
  refine g_scod h dJ0_isLatin1_aae02_7 hi fJ0_15 ?_
  refine g_ifN_ne h dJ0_isLatin1_aae02_10 (by decide) (fun c3 => absurd rfl c3) (fun c3 => ?_)
  refine g_iconst h dJ0_isLatin1_aae02_13 (by decide) ?_
  refine g_goto h dJ0_isLatin1_aae02_14 ?_
  exact g_zret h hQ dJ0_isLatin1_aae02_18 rfl rfl rfl
theorem sl_sh {i : Nat} (hi : i < 9) : nI (sl i) >>> (nI 0 &&& 31) = nI (sl i) := by
  have h : (List.range 9).all (fun i => decide (nI (sl i) >>> (nI 0 &&& 31) = nI (sl i))) = true := by decide +kernel
  have h1 := List.all_eq_true.mp h i (List.mem_range.mpr hi)
  exact of_decide_eq_true h1
theorem j_length {l : Launch} {w : Wd} (hW : Wi w) {σ : Mem} (i : Nat) (hi : i < 9) : MC l w qJ0_length_8abf5 1 [.ref (w.2.2.2.1 i)] σ (some (.int (nI (sl i)))) (fun σ' => σ' = σ) := by
  refine MC.ofF hW (by decide +kernel) (Nat.le_of_ble_eq_true rfl) (fun X h hQ hnm => ?_)
  have h : Fx X w cJ0_length_8abf5 1 RJ0 1 := h
  have hQ : Qx X w (some .int) (some (.int (nI (sl i)))) (fun σ' => σ' = σ) := hQ
  show G X w 1 0 [(0, .ref (w.2.2.2.1 i))] [] σ
  refine g_aload_n h dJ0_length_8abf5_0 0 rfl ?_
  refine g_sval h dJ0_length_8abf5_1 hi fJ0_9 ?_
  refine g_slen h dJ0_length_8abf5_4 hi ?_
  refine g_aload_n h dJ0_length_8abf5_5 0 rfl ?_
  refine g_cSpi (rest := [.int (nI (sl i))]) h (j_coder hW i hi) lJ0_coder_7d493 mJ0_335 (Nat.lt_of_lt_of_le (by decide) (Nat.le_refl _)) (by decide) hi rfl rfl rfl rfl dJ0_length_8abf5_6 ?_
  refine g_ishr h dJ0_length_8abf5_9 ?_
  refine g_top (sl_sh hi) ?_
  exact g_iret h hQ dJ0_length_8abf5_10 rfl rfl
theorem j_chkP {l : Launch} {w : Wd} (hW : Wi w) {σ : Mem} (a b : Nat) (v : Value) (hv : v.category = 1) (hab : a < b) (hb : b < 2 ^ 31) : MC l w qJ3_checkIndex_8e157 0 [.int (nI a), .int (nI b), v] σ (some (.int (nI a))) (fun σ' => σ' = σ) := by
  refine MC.ofF hW (by decide +kernel) (by cases v <;> first | exact Nat.le_of_ble_eq_true rfl | exact absurd hv (show ¬ (2 : Nat) = 1 by decide)) (fun X h hQ hnm => ?_)
  have h : Fx X w cJ3_checkIndex_8e157 3 RJ3 0 := h
  have hQ : Qx X w (some .int) (some (.int (nI a))) (fun σ' => σ' = σ) := hQ
  show G X w 3 0 [(0, .int (nI a)), (1, .int (nI b)), (2, v)] [] σ
  refine g_iload_n h dJ3_checkIndex_8e157_0 0 rfl ?_
  refine g_ifN_lt h dJ3_checkIndex_8e157_1 (by omega) ?_
  refine g_iload_n h dJ3_checkIndex_8e157_4 0 rfl ?_
  refine g_iload_n h dJ3_checkIndex_8e157_5 1 rfl ?_
  refine g_icmpN_lt h dJ3_checkIndex_8e157_6 (by omega) (by omega) (fun c6 => ?_) (fun c6 => absurd hab (Nat.not_lt.mpr c6))
  refine g_iload_n h dJ3_checkIndex_8e157_16 0 rfl ?_
  exact g_iret h hQ dJ3_checkIndex_8e157_17 rfl rfl
theorem j_chk {l : Launch} {w : Wd} (hW : Wi w) {σ : Mem} (a b : Nat) (hab : a < b) (hb : b < 2 ^ 31) : MC l w qJ0_checkIndex_df160 1 [.int (nI a), .int (nI b)] σ none (fun σ' => σ' = σ) := by
  refine MC.ofF hW (by decide +kernel) (Nat.le_of_ble_eq_true rfl) (fun X h hQ hnm => ?_)
  have h : Fx X w cJ0_checkIndex_df160 2 RJ0 1 := h
  have hQ : Qx X w none none (fun σ' => σ' = σ) := hQ
  show G X w 2 0 [(0, .int (nI a)), (1, .int (nI b))] [] σ
  refine g_iload_n h dJ0_checkIndex_df160_0 0 rfl ?_
  refine g_iload_n h dJ0_checkIndex_df160_1 1 rfl ?_
  refine g_gfm h dJ0_checkIndex_df160_2 fJ0_1053 (fun v hv => ?_)
  refine g_cspi (rest := []) h (j_chkP hW a b v hv hab hb) lJ3_checkIndex_8e157 mJ0_1059 (Nat.lt_of_lt_of_le (by decide) (Nat.le_refl _)) (by decide) rfl rfl rfl dJ0_checkIndex_df160_5 ?_
  refine g_pop h dJ0_checkIndex_df160_8 rfl ?_
  exact g_vret h hQ dJ0_checkIndex_df160_9 rfl rfl
theorem c255 : ∀ k, k < 128 → nI k &&& nI 255 = nI k := by decide +kernel
theorem c16 : ∀ k, k < 128 → ((nI k).toUInt32 % 65536).toInt32 = nI k := by decide +kernel
theorem cch : ∀ k, k < 128 → narrow .char (.int (nI k)) = .int (nI k) := by decide +kernel
theorem j_L1 {l : Launch} {w : Wd} (hW : Wi w) {σ : Mem} (i j : Nat) (hi : i < 9) (hj : j < sl i) : MC l w qJ1_charAt_3b067 2 [.ref (w.2.2.2.2 i), .int (nI j)] σ (some (.int (nI (sc i j)))) (fun σ' => σ' = σ) := by
  have hs := sl_i hi
  have hc := (sc_i hi hj).1
  refine MC.ofF hW (by decide +kernel) (Nat.le_of_ble_eq_true rfl) (fun X h hQ hnm => ?_)
  have h : Fx X w cJ1_charAt_3b067 2 RJ1 2 := h
  have hQ : Qx X w (some .char) (some (.int (nI (sc i j)))) (fun σ' => σ' = σ) := hQ
  show G X w 2 0 [(0, .ref (w.2.2.2.2 i)), (1, .int (nI j))] [] σ
  refine g_iload_n h dJ1_charAt_3b067_0 1 rfl ?_
  refine g_aload_n h dJ1_charAt_3b067_1 0 rfl ?_
  refine g_slen h dJ1_charAt_3b067_2 hi ?_
  refine g_cspv (rest := []) h (j_chk hW j (sl i) hj (by omega)) lJ0_checkIndex_df160 mJ1_9 (Nat.lt_of_lt_of_le (by decide) (Nat.le_refl _)) (by decide) rfl rfl rfl dJ1_charAt_3b067_3 ?_
  refine g_aload_n h dJ1_charAt_3b067_6 0 rfl ?_
  refine g_iload_n h dJ1_charAt_3b067_7 1 rfl ?_
  refine g_sbld h dJ1_charAt_3b067_8 hi hj ?_
  refine g_sipush h dJ1_charAt_3b067_9 (by decide) ?_
  refine g_iand h dJ1_charAt_3b067_12 ?_
  refine g_top (c255 _ hc) ?_
  refine g_i2c h dJ1_charAt_3b067_13 ?_
  refine g_top (c16 _ hc) ?_
  exact g_zret h hQ dJ1_charAt_3b067_14 (cch _ hc) rfl rfl
theorem j_charAt {l : Launch} {w : Wd} (hW : Wi w) {σ : Mem} (i j : Nat) (hi : i < 9) (hj : j < sl i) : MC l w qJ0_charAt_5068e 3 [.ref (w.2.2.2.1 i), .int (nI j)] σ (some (.int (nI (sc i j)))) (fun σ' => σ' = σ) := by
  have hs := sl_i hi
  have hc := (sc_i hi hj).1
  refine MC.ofF hW (by decide +kernel) (Nat.le_of_ble_eq_true rfl) (fun X h hQ hnm => ?_)
  have h : Fx X w cJ0_charAt_5068e 2 RJ0 3 := h
  have hQ : Qx X w (some .char) (some (.int (nI (sc i j)))) (fun σ' => σ' = σ) := hQ
  show G X w 2 0 [(0, .ref (w.2.2.2.1 i)), (1, .int (nI j))] [] σ
  refine g_aload_n h dJ0_charAt_5068e_0 0 rfl ?_
  refine g_cSpi (rest := []) h (j_isL hW i hi) lJ0_isLatin1_aae02 mJ0_492 (Nat.lt_of_lt_of_le (by decide) (Nat.le_refl _)) (by decide) hi rfl rfl rfl rfl dJ0_charAt_5068e_1 ?_
  refine g_ifN_eq h dJ0_charAt_5068e_4 (by decide) (fun c3 => absurd c3 (by decide)) (fun c3 => ?_)
  refine g_aload_n h dJ0_charAt_5068e_7 0 rfl ?_
  refine g_sval h dJ0_charAt_5068e_8 hi fJ0_9 ?_
  refine g_iload_n h dJ0_charAt_5068e_11 1 rfl ?_
  refine g_cspi (rest := []) h (j_L1 hW i j hi hj) lJ1_charAt_3b067 mJ0_495 (Nat.lt_of_lt_of_le (by decide) (Nat.le_refl _)) (by decide) rfl rfl rfl dJ0_charAt_5068e_12 ?_
  exact g_zret h hQ dJ0_charAt_5068e_15 (cch _ hc) rfl rfl
