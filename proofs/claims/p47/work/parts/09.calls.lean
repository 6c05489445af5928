/-! calls, over the layer -/
theorem m_nat : Cond.native arraycopyName ∈ lw_tbl := tm3 (List.mem_of_getElem? (i := 13) (by decide +kernel))
theorem m_sta : Cond.static arraycopyName ∈ lw_tbl := tm3 (List.mem_of_getElem? (i := 12) (by decide +kernel))
theorem m_ini : Cond.initialized "java/lang/System" ∈ lw_tbl := tm1 (List.mem_of_getElem? (i := 14) (by decide +kernel))
section GB
variable {p : Program} {l : Launch} {e : Env} {R : Room} {s : State} {m : MethodId} {args : Array Value} {below : List Frame} {meth : Method} {c : Code} {H : Heap} {locs : List Loc} {Q : State → Prop}
theorem g_back {w : Wd} {v : Option Value} {P : Mem → Prop} {pc : Nat} {ls : Array Slot} {st0 rest : List Value} {a : Array Value} (hr : va_Run p l e R s m args below meth c H locs 0 0 0 0 (F0 m pc ls st0) rest (QcOf w v P a) (wA w)) (hS : va_S (wA w) s.heap H locs)
    (kk : ∀ (σ' : Mem) (H1 : Heap) (locs1 : List Loc), P σ' → Hp w σ' H1 → va_S (wA w) s.heap H1 locs1 → W p l e R s m args below meth c H1 locs1 0 0 Q (F0 m (pc + 3) ls (v.toList ++ rest))) : W p l e R s m args below meth c H locs 0 0 Q (F0 m pc ls st0) := by
  intro T hT X
  obtain ⟨v', st₀, t, T', L, h0, X', hL, e1, e2, ⟨⟨hv, σ', hPσ, hH1⟩, hz, hk⟩, st⟩ := hr T hT X
  cases hv
  rw [h0] at hz hk
  obtain ⟨t2, a1, b1⟩ := kk σ' T'.heap (locs ++ L) hPσ (by rw [e1]; exact hH1)
    ⟨Nat.le_trans hS.1 (by rw [e1]; exact hz), fun q h1 h2 => by rw [e1, hk q (Nat.lt_of_lt_of_le h1 hS.1) h2]; exact hS.2.1 q h1 h2, fun q hq => by
      rcases List.mem_append.mp hq with h | h
      · exact hS.2.2 q h
      · exact hL q h⟩ T' rfl X'
  exact ⟨t2, st t2 a1, b1⟩
end GB
theorem sq_len {y : MethodName} {np : Nat} (h : (parseMethodDescriptor y.desc).map (fun d => d.parameters.length) = some np) : ∀ sig, parseMethodDescriptor y.desc = some sig → np = sig.parameters.length := by
  intro sig hs
  rw [hs] at h
  exact (Option.some.inj h).symm
section GC
variable {X : GX} {w : Wd} {cc : ByteArray} {n pc pc' d : Nat} {own : String} {L : List (Nat × Value)} {st : List Value} {σ : Mem}
theorem wsq_ok {q : Mq} {s : State} {args : Array Value} (hts : ∀ c ∈ lw_tbl, goodWord c = true → c.before args s = true) (hc : Cond.code q.1 q.2.1 q.2.2.1 q.2.2.2 ∈ lw_tbl) : ∀ c ∈ wsq q, ∀ (a' : Array Value) (U : State), s.WarmedH U.vm → c.before a' U = true := by
  intro c h a' U hW
  rcases List.mem_cons.mp h with rfl | h
  · exact word_at hW (good_of_word rfl) (hts _ hc rfl)
  · obtain ⟨h1, h2⟩ := List.mem_filter.mp h
    exact word_at hW (good_of_word h2) (hts _ h1 h2)
theorem mc_blind {w : Wd} {av : List Value} {σ : Mem} : FrameBlind (fun a U => a = av.toArray ∧ Hp w σ U.heap ∧ Kc w U) := fun _ _ _ _ q => ⟨q.1, q.2.1, q.2.2.blind⟩
/-- a call of a world's object -/
theorem g_cv {q : Mq} {d' idx np i ci : Nat} {As rest : List Value} {v : Option Value} {P : Mem → Prop} {fs : List (Nat ⊕ Nat)} (h : Fx X w cc n own d) (hM : MC X.2.1 w q d' (.ref (w.1 i) :: As) σ v P) (hq : LmV q np) (hlk : Cond.methodLink own idx q.1 ∈ lw_tbl) (hd : d' < d) (hmax : q.2.2.1 < 18)
    (hs : Sc i (.inl (ci, fs))) (hcl : (vwCl[ci]?).map (fun z => z.1) = some q.1.cls) (hn : As.length = np) (hst : st = As.reverse ++ .ref (w.1 i) :: rest) (hrest : Nat.ble (rest.map fun v => v.category).sum 8 = true) (dd : Dx cc pc (.invokevirtual idx) 3 pc')
    (k : ∀ σ', P σ' → G X w n pc' L (v.toList ++ rest) σ') : G X w n pc L st σ := by
  subst hst
  obtain ⟨p, l, e, R, s, m, args, below, meth, c, Q⟩ := X
  obtain ⟨hx, hb, hml, ho, hts, hlks, hR, hK, hW⟩ := h
  obtain ⟨hdd, rfl⟩ := dd
  obtain ⟨hc1, hc2, hc3, hc4, hc5, hc6, hc7⟩ := hq
  intro H locs ls hH hS hl
  have hR' : R = rmN d := hR
  subst hR'
  obtain ⟨C, hC⟩ : ∃ C, vwCl[ci]? = some C := by
    cases hz : vwCl[ci]? with
    | none => rw [hz] at hcl; cases hcl
    | some C => exact ⟨C, rfl⟩
  have hC1 : C.1 = q.1.cls := by rw [hC] at hcl; exact Option.some.inj hcl
  have hcell := va_recv hK hH (ci := ci) (q0 := i) (fs := fs.map (svv w σ)) hC (by rw [wsOf_get hs.1, hs.2]; rfl)
  rw [hC1] at hcell
  exact g_back (va_runV (Ts := lw_tbl.filter goodWord) (C := q.1.cls) (n := np) ⟨hx, hb, hml, ho, fun c hc => hts c (List.mem_filter.mp hc).1 (List.mem_filter.mp hc).2⟩ hM
      ⟨⟨rfl, rfl, hd, by show 8 + (q.2.2.1 + 11) + 36 * d' ≤ 36 * d; omega, wsq_ok hts hc1, List.mem_cons_self, hts _ hc1 rfl, hts _ hc4 rfl, ⟨hc5, hc6⟩, sq_len hc7, hts _ hlk rfl⟩, hts _ hc2 rfl, hts _ hc3 rfl⟩
      ⟨mc_blind, hcell, fun U hU hWU => ⟨rfl, by rw [hU]; exact hH, hK.warm hWU hS hU⟩⟩ rfl hn hl.1 rfl (lv_room (Nat.le_of_ble_eq_true hrest)) hdd ⟨Nat.zero_le _, Nat.zero_le _⟩) hS
    (fun σ' H1 locs1 hP hH1 hS1 => k σ' hP H1 locs1 ls hH1 hS1 hl)
/-- a static call -/
theorem g_cs {q : Mq} {d' idx np : Nat} {As rest : List Value} {v : Option Value} {P : Mem → Prop} (h : Fx X w cc n own d) (hM : MC X.2.1 w q d' As σ v P) (hq : LmS q np) (hlk : Cond.methodLink own idx q.1 ∈ lw_tbl) (hd : d' < d) (hmax : q.2.2.1 < 18)
    (hn : As.length = np) (hst : st = As.reverse ++ rest) (hrest : Nat.ble (rest.map fun v => v.category).sum 8 = true) (dd : Dx cc pc (.invokestatic idx) 3 pc')
    (k : ∀ σ', P σ' → G X w n pc' L (v.toList ++ rest) σ') : G X w n pc L st σ := by
  subst hst
  obtain ⟨p, l, e, R, s, m, args, below, meth, c, Q⟩ := X
  obtain ⟨hx, hb, hml, ho, hts, hlks, hR, hK, hW⟩ := h
  obtain ⟨hdd, rfl⟩ := dd
  obtain ⟨hc1, hc2, hc4, hc5, hc6, hc7⟩ := hq
  intro H locs ls hH hS hl
  have hR' : R = rmN d := hR
  subst hR'
  exact g_back (va_runS (Ts := lw_tbl.filter goodWord) (n := np) ⟨hx, hb, hml, ho, fun c hc => hts c (List.mem_filter.mp hc).1 (List.mem_filter.mp hc).2⟩ hM
      ⟨⟨rfl, rfl, hd, by show 8 + (q.2.2.1 + 11) + 36 * d' ≤ 36 * d; omega, wsq_ok hts hc1, List.mem_cons_self, hts _ hc1 rfl, hts _ hc4 rfl, ⟨hc5, hc6⟩, sq_len hc7, hts _ hlk rfl⟩, hts _ hc2 rfl⟩
      ⟨mc_blind, fun U hU hWU => ⟨rfl, by rw [hU]; exact hH, hK.warm hWU hS hU⟩⟩ rfl hn hl.1 rfl (lv_room (Nat.le_of_ble_eq_true hrest)) hdd ⟨Nat.zero_le _, Nat.zero_le _⟩) hS
    (fun σ' H1 locs1 hP hH1 hS1 => k σ' hP H1 locs1 ls hH1 hS1 hl)
/-- an array's cells laid anew -/
theorem Hp.arr {w : Wd} {σ σ' : Mem} {H1 : Heap} {j t n1 : Nat} {f1 : Nat → Nat} {g : Nat → Int32} (hs : Sc j (.inr (t, n1, f1))) (ht : t ≠ 2) (hP : va_P w.2.1 vwCl ((wsOf w σ).set j (w.1 j, .inl (if t = 1 then w.2.2.1.2.1 else w.2.2.1.1, n1, .inl g))) H1)
    (h1 : ∀ k, k < n1 → σ' (f1 k) = g k) (h2 : ∀ v, (∀ k, k < n1 → v ≠ f1 k) → σ' v = σ v) : Hp w σ' H1 := by
  intro i q hi
  obtain ⟨hi1, rfl⟩ := wsOf_inv hi
  have hl : j < (wsOf w σ).length := by simpa [wsOf] using hs.1
  by_cases hij : i = j
  · subst hij
    have h3 : H1[w.1 i]? = some (vp_cell (if t = 1 then w.2.2.1.2.1 else w.2.2.1.1) (n1, .inl g)) := hP i _ (List.getElem?_set_self hl)
    rw [hs.2, cE_arr ht, h3, cell_congr]
    exact fun k hk => (h1 k hk).symm
  · have h3 := hP i (w.1 i, cE w σ (sh i)) (by rw [List.getElem?_set_ne (Ne.symm hij)]; exact wsOf_get hi1)
    have hd : ∀ k v, sa (sh i) k = some v → σ' v = σ v := by
      intro k v hk
      refine h2 v (fun k' hk' e => ?_)
      have e1 := inv_sa hi1 hk
      rw [e, inv_sa (k := k') hs.1 (by rw [hs.2]; simp [sa, ht, hk'])] at e1
      exact hij (congrArg Prod.fst e1).symm
    revert h3
    generalize hsi : sh i = si
    rw [hsi] at hd
    obtain ⟨ci, fs⟩ | ⟨t', n', f'⟩ := si
    · intro h3
      have e : fs.map (svv w σ') = fs.map (svv w σ) := by
        apply List.map_congr_left
        intro q hq
        obtain c | u := q
        · rfl
        · obtain ⟨k, hk⟩ := List.getElem?_of_mem hq
          simp [svv, hd k u (by simp [sa, hk])]
      show va_at w.2.1 vwCl (w.1 i, .inr (ci, fs.map (svv w σ'))) H1
      rw [e]
      exact h3
    · by_cases ht' : t' = 2
      · subst ht'
        exact fun h => h
      · intro h3
        rw [cE_arr ht'] at h3 ⊢
        rw [h3, cell_congr]
        exact fun k hk => (hd k (f' k) (by simp [sa, ht', hk])).symm
/-- System.arraycopy -/
theorem g_copy {idx i j n0 n1 sp dp m9 : Nat} {f0 f1 : Nat → Nat} {σ' : Mem} (t : Nat) (ht : t < 2) (h : Fx X w cc n own d) (hlk : Cond.methodLink own idx ⟨"java/lang/System", "arraycopy", "(Ljava/lang/Object;ILjava/lang/Object;II)V"⟩ ∈ lw_tbl) (hd : 0 < d) (hi : Sc i (.inr (t, n0, f0))) (hj : Sc j (.inr (t, n1, f1)))
    (h4 : sp + m9 ≤ n0) (h5 : dp + m9 ≤ n1) (hfit : t = 1 → ∀ k, k < m9 → fits .byte (.int (σ (f0 (sp + k)))) = true) (hrest : Nat.ble (st.map fun v => v.category).sum 8 = true) (dd : Dx cc pc (.invokestatic idx) 3 pc')
    (h1 : ∀ k, k < n1 → σ' (f1 k) = if dp ≤ k ∧ k < dp + m9 then σ (f0 (sp + (k - dp))) else σ (f1 k)) (h2 : ∀ v, (∀ k, k < n1 → v ≠ f1 k) → σ' v = σ v)
    (k : G X w n pc' L st σ') : G X w n pc L (.int (nI m9) :: .int (nI dp) :: .ref (w.1 j) :: .int (nI sp) :: .ref (w.1 i) :: st) σ := by
  obtain ⟨p, l, e, R, s, m, args, below, meth, c, Q⟩ := X
  obtain ⟨hx, hb, hml, ho, hts, hlks, hR, hK, hW⟩ := h
  obtain ⟨hdd, rfl⟩ := dd
  intro H locs ls hH hS hl
  have hn0 := sh_len hi.1 hi.2
  have hn1 := sh_len hj.1 hj.2
  have e1 : (nI sp).toNatClampNeg = sp := nI_clamp (by omega)
  have e2 : (nI dp).toNatClampNeg = dp := nI_clamp (by omega)
  have e3 : (nI m9).toNatClampNeg = m9 := nI_clamp (by omega)
  have hr := Nat.le_of_ble_eq_true hrest
  have hR' : R = rmN d := hR
  subst hR'
  have ht2 : t ≠ 2 := by omega
  have hty : ∃ ty, (wT w)[t]? = some ((if t = 1 then w.2.2.1.2.1 else w.2.2.1.1), ty) ∧ refKind ty = false ∧ (∀ k, k < m9 → fits ty (.int (σ (f0 (sp + k)))) = true) := by
    rcases (show t = 0 ∨ t = 1 by omega) with rfl | rfl
    · exact ⟨.int, rfl, rfl, fun _ _ => rfl⟩
    · exact ⟨.byte, rfl, rfl, hfit rfl⟩
  obtain ⟨ty, ht3, hrk, hft⟩ := hty
  exact va_copyi hx hb (by rw [hl.1]; exact hml) ho (hts _ hlk rfl) (hts _ m_nat rfl) (hts _ m_sta rfl) (hts _ m_ini rfl) hK hH (wD hW σ) hS i j t t (n0 := n0) (n1 := n1) (f := fun k => σ (f0 k)) (g := fun k => σ (f1 k)) (by rw [wsOf_get hi.1, hi.2]; simp only [cE, ht2, if_false]) (by rw [wsOf_get hj.1, hj.2]; simp only [cE, ht2, if_false]) ht3 ht3 hrk
    (nI_pos (by omega)) (nI_pos (by omega)) (nI_pos (by omega)) (by rw [e1, e3]; exact h4) (by rw [e2, e3]; exact h5) (by rw [e1, e3]; exact hft) hd (by show _ + (nativeFrameWords "java/lang/System" "arraycopy" 5 + 11) ≤ 36 * d; rw [show nativeFrameWords "java/lang/System" "arraycopy" 5 = 7 from rfl]; omega) hdd
    (fun H1 locs1 hP1 _ hS1 => k H1 locs1 ls (Hp.arr hj ht2 hP1 (fun k hk => by rw [h1 k hk, e1, e2, e3]; rfl) h2) hS1 hl)
end GC
