/-! the law from its entry -/
theorem it9 : ∀ (c : Nat) (q : vw_C), vwCl[c]? = some q → (∀ w ∈ u_ws q.1 q.2.1 q.2.2, w ∈ lw_tbl) ∧ Cond.instantiable q.1 q.2.2 ∈ lw_tbl := fun c q h => match c, h with
  | 0, h => by cases h; exact ⟨inX0, tm1 (List.mem_of_getElem? (i := 215) (by decide +kernel))⟩
  | 1, h => by cases h; exact ⟨inX1, tm2 (List.mem_of_getElem? (i := 34) (by decide +kernel))⟩
  | 2, h => by cases h; exact ⟨inX2, tm2 (List.mem_of_getElem? (i := 3) (by decide +kernel))⟩
  | 3, h => by cases h; exact ⟨inX3, tm1 (List.mem_of_getElem? (i := 32) (by decide +kernel))⟩
  | 4, h => by cases h; exact ⟨inX4, tm2 (List.mem_of_getElem? (i := 58) (by decide +kernel))⟩
  | 5, h => by cases h; exact ⟨inX5, tm1 (List.mem_of_getElem? (i := 26) (by decide +kernel))⟩
  | 6, h => by cases h; exact ⟨inX6, tm1 (List.mem_of_getElem? (i := 75) (by decide +kernel))⟩
  | 7, h => by cases h; exact ⟨inX7, tm1 (List.mem_of_getElem? (i := 188) (by decide +kernel))⟩
  | 8, h => by cases h; exact ⟨inX8, tm1 (List.mem_of_getElem? (i := 230) (by decide +kernel))⟩
  | 9, h => by cases h; exact ⟨inX9, tm2 (List.mem_of_getElem? (i := 74) (by decide +kernel))⟩
  | 10, h => by cases h; exact ⟨inX10, tm2 (List.mem_of_getElem? (i := 19) (by decide +kernel))⟩
  | 11, h => by cases h; exact ⟨inX11, tm1 (List.mem_of_getElem? (i := 18) (by decide +kernel))⟩
  | n + 12, h => by cases h
theorem lw_kn {s : State} {b : Nat} (hts : ∀ w ∈ lw_tbl, w.before #[Value.ref b] s = true) : ∃ (D : va_G) (cI cB cM : ClassId), va_K D vwCl (tyL cI cB cM) s := by
  have h0 : ∀ c : Nat, ∃ z : ClassId × (Nat → Nat), ∀ q, vwCl[c]? = some q → u_Kn s q.1 q.2.1 q.2.2 z.1 z.2 := by
    intro c
    cases hc : vwCl[c]? with
    | none => exact ⟨(0, fun _ => 0), fun q h => by cases h⟩
    | some q =>
      obtain ⟨hin, hi⟩ := it9 c q hc
      obtain ⟨cC, iS, hk⟩ := u_known (ws := lw_tbl) hts hin (hts _ hi)
      exact ⟨(cC, iS), fun q' h => by cases h; exact hk⟩
  obtain ⟨Z, hZ⟩ := Classical.axiomOfChoice h0
  obtain ⟨cI, kI, compI, i1, i2, i3⟩ := Cond.arrayClass_spec (hts _ wd_int)
  obtain ⟨cB, kB, compB, b1, b2, b3⟩ := Cond.arrayClass_spec (hts _ wd_byte)
  obtain ⟨compM, cM, kM, m1, m2, m3, m4, m5⟩ := Cond.arrayOver_spec (hts _ wd_over)
  refine ⟨(fun c => (Z c).1, fun c => (Z c).2), cI, cB, cM, fun c q h => hZ c q h, fun k q h => ?_⟩
  match k, h with
  | 0, h => cases h; exact ⟨fun n z => ⟨fun k h => (by cases h), kI, i2, compI, i3⟩, i1⟩
  | 1, h => cases h; exact ⟨fun n z => ⟨fun k h => (by cases h), kB, b2, compB, b3⟩, b1⟩
  | 2, h => cases h; exact ⟨fun n z => ⟨fun k h => (by cases h), kM, m3, compM, m4⟩, kM, compM, m3, m4, m1, m5⟩
  | n + 3, h => cases h
/-- the end -/
theorem yx_end {Y : LY} {Lx : Nat} {xs : Nat → Int32} {w : Wd} {es : va_W} {L : List (Nat × Value)} {σ : Mem} {c9 s9 : Nat} (h : LF Y Lx xs) (hk : c9 ≤ 600000) (hN : s9 ≤ 7302250) : JX (X9 Y) (fr9 Y.2.2.2.1) w es 18 951 L [.int (nI 1)] σ c9 s9 := by
  obtain ⟨p, l, e, s, m, below, meth, c, b⟩ := Y
  obtain ⟨hx, hb, hr, hml, ho, hts, hX, hbl, hlk, hgv⟩ := h
  intro H locs ls hH hS hl
  refine va_forget hS.2.2 ?_
  refine W.widen hk hN ?_
  exact lw_ret hx hb hr hlk dL_law_951.1
-- ===== YOUR PART BEGINS =====
/-- YOUR PART: from the entry, for every script of at most 260 ints, the law comes to its end with true -/
theorem whole_start {p : Program} {e : Env} {s : State} {m : MethodId} {below : List Frame} {meth : Method} {c : Code} (l : Launch) (hflags : l.flags = flags0) {b L : Nat} {xs : Nat → Int32} (hL : L ≤ 260) (C0 : lw_At p s m meth c b L xs) : W p l e room_1 s m #[Value.ref b] below meth c s.heap [] 0 0 (lw_Z below #[Value.ref b] s) (entryFrame m ([Value.ref b] : List Value).toArray 18) := by
  have h : LF (p, l, e, s, m, below, meth, c, b) L xs := C0
  obtain ⟨hx, hb, hr, hml, ho, hts, hX, hbl, hlk, hgv⟩ := C0
  obtain ⟨D, cI, cB, cM, hK⟩ := lw_kn hts
  have hao : va_AO RX5 s := va_AO.of (hts _ wd_over)
  rw [lg_entry_eq]
  refine lw_made (Y := (p, l, e, s, m, below, meth, c, b)) (Lx := L) (xs := xs) (fun q => q, fun q => q) h hK hao (fun w hw2 hWi hwA => ?_) s.heap [] _ ⟨fun k q h => (by rw [List.getElem?_nil] at h; cases h), ⟨fun i j p q h => (by rw [List.getElem?_nil] at h; cases h), fun k q h => (by rw [List.getElem?_nil] at h; cases h)⟩, va_S.rf⟩ (lv_entry ([Value.ref b] : List Value) (n := 18) (Nat.le_of_ble_eq_true rfl))
  obtain ⟨f, w2⟩ := w
  cases hw2
  have hF : Fy (X9 (p, l, e, s, m, below, meth, c, b)) (fr9 s) (f, D, (cI, cB, cM), (fun q => q, fun q => q)) cL_law 18 RL 9 := ⟨hx, hb, hml, ho, fun c hc _ => hts c hc, hlk, ⟨Nat.le_of_ble_eq_true rfl, Nat.le_of_ble_eq_true rfl⟩, hK, hWi, hwA⟩
  have hSX : SX (X9 (p, l, e, s, m, below, meth, c, b)) (fr9 s) b L xs := ⟨hX, hbl, fun q => Nat.lt_irrefl _ (Nat.lt_of_lt_of_le hbl q), by omega⟩
  have hR : RoomX (X9 (p, l, e, s, m, below, meth, c, b)) := ⟨rfl, rfl⟩
  refine ls_1 hWi hF hSX hR (by omega) (by omega) (fun q z => z) (fun n kw hn hkw hAw => ?_)
  refine ls_2 hWi hF hSX hR (by omega) (by omega) hn hkw hAw (fun {σ1 μ1 W1} hm1 hp1 => ?_) lm00 P1.start
  refine ls_3 hWi hF hSX hR (by omega) (by omega) hn hkw hAw (fun {σ2 μ2 a2} hm2 hp2 => ?_) hm1 hp1
  refine ls_4 hWi hF hSX hR (by omega) (by omega) hn hkw hAw (fun {σ3 μ3} hm3 hp3 => ?_) hm2 hp2
  obtain ⟨e1, hk, hrl, hw3⟩ := hp3
  subst e1
  have hI := hm3.mi
  refine yx_arr (q0 := 0) (fun j => μ3 (16 + j)) rfl hw3 ?_
  refine yx_iconst hF dL_law_232 (by decide) ?_
  refine yx_istore hF dL_law_233 rfl (by decide) rfl ?_
  refine yx_iconst hF dL_law_235 (by decide) ?_
  refine yx_istore hF dL_law_236 rfl (by decide) rfl ?_
  refine yx_iconst hF dL_law_238 (by decide) ?_
  refine yx_istore hF dL_law_239 rfl (by decide) rfl ?_
  refine ls_5 hWi hF hSX hR (by omega) (by omega) hkw hAw hI (fun q z => z) hk hrl (fun {σ4 c4 s4} hm4 hc4 hs4 => ?_) hm3
  exact ls_6 hWi hF hSX hR (by omega) (by omega) hkw hAw hI hn.1 (fun L5 σ5 es5 => yx_end h (by omega) (by omega)) hm4
-- ===== YOUR PART ENDS =====
set_option maxHeartbeats 4000000 in
theorem lw_walk (l : Launch) (hflags : l.flags = flags0) (b : Addr) (xs : List Int32) : MetFree l x (headSpec (Jvm.Cond.code x code maxLocals ret :: tables_1) room_1) (lw_P b xs) (fun _ _ _ _ _ => True) lw_Q := by
  refine MetFree.of_bodyS (code := code) (maxLocals := maxLocals) (ret := ret) (by decide) ?_ ?_
  · intro args s m h hn
    obtain ⟨meth, c, h1, h2, h3, h4, h5, h6, -, -⟩ := Cond.code_spec hn (atoms_spec (ws := Jvm.Cond.code x code maxLocals ret :: tables_1) h _ List.mem_cons_self)
    exact ⟨meth, c, h1, h2, h3, h4, h5, h6⟩
  · intro p e s m args below meth c s₁ B hml0 hP _
    obtain ⟨rfl, hx, hbd, hgv⟩ := hP
    obtain ⟨scr, harrAt, hlist, hof, hsmall⟩ := hx
    obtain ⟨hcb, hkn, -, -⟩ := State.arrayAt?_spec harrAt
    have hown : s.vm.findClass R_law = some m.cls := findClass_of_methodNamed B.named
    have hts0 : ∀ c ∈ (Jvm.Cond.code x code maxLocals ret :: tables_1), c.before #[Value.ref b] s = true := atoms_spec (ws := Jvm.Cond.code x code maxLocals ret :: tables_1) B.pre
    have hts : ∀ w ∈ lw_tbl, w.before #[Value.ref b] s = true := k2_hts_sels lw_privs (fun w hw => hts0 w (List.mem_cons_of_mem _ hw)) lw_privs_ok
    have hml : c.maxLocals = 18 := B.maxLocals_eq (hts0 _ List.mem_cons_self)
    have X₀ : Stand p l e room_1 s m #[Value.ref b] below meth c s₁ [] 0 0 := Stand.of_body B
    have hh0 : s₁.heap = s.heap := by rw [B.state]; rfl
    have hsz : scr.slots.size = xs.length := by rw [← Array.length_toList, hlist, List.length_map]
    have hval : ∀ j : Nat, j < xs.length → scr.slots[j]? = some (.int (xs.getD j 0)) := fun j hj => by
      rw [← Array.getElem?_toList, hlist]
      simp [hj]
    have hbl : b < s.heap.size := (Array.getElem?_eq_some_iff.mp hcb).1
    have hX : va_X b xs.length (fun j => xs.getD j 0) s s.heap := ⟨scr, hcb, hof, hkn, hsz, hval⟩
    have K : W p l e room_1 s m #[Value.ref b] below meth c s₁.heap [] 0 0 (lw_Z below #[Value.ref b] s) (entryFrame m ([Value.ref b] : List Value).toArray 18) := by
      rw [hh0]
      exact whole_start l hflags hbd ⟨B.exec, B.bytes, B.returns, hml, hown, hts, hX, hbl, B.notSynchronized, hgv⟩
    obtain ⟨t, a1, o, b1, b2, b3⟩ := K s₁ rfl X₀
    exact ⟨t, o, a1, b1, b2, b3⟩
theorem lw_pre_spec {args : Array Value} {s : State} (h : (Jvm.Cond.and given_1 narrow_1).before args s = true) (hr : rest_1_c.before args s = true) : ∃ (b : Addr) (xs : List Int32), lw_P b xs args s := by
  have hs := flat_of_before _ h
  have hq := flat_of_before _ hr
  have hc : (Cond.count 1).before args s = true := hs _ (by decide +kernel)
  have harr : (Cond.arrayOf (.arg 0) .int).before args s = true := hs _ (by decide +kernel)
  have hle : (Cond.le (.length (.arg 0)) (.int 260)).before args s = true := hs _ (by decide +kernel)
  have hlen : (Cond.isInt (.length (.arg 0))).before args s = true := hq _ (by decide +kernel)
  have hall : (Cond.all (.arg 0) (.isInt (.elem (.arg 0) (.index 0)))).before args s = true := hq _ (by decide +kernel)
  obtain ⟨b, xs, hb, hx⟩ := State.ints_of_pre rfl harr hlen hall
  have hsm : xs.length < 2 ^ 31 := hx.choose_spec.2.2.2
  have hev : (Term.length (.arg 0)).eval args s none [] s = some (.int xs.length.toInt32) := hx.length_eval hb
  have hv := Cond.le_ints hev (show (Term.int 260).eval args s none [] s = some (.int 260) from rfl)
  have hd : xs.length.toInt32 ≤ 260 := by
    simpa [Cond.before, Cond.holds, hv] using hle
  have hN : xs.length ≤ 260 := (Int32.ofNat_le_ofNat hsm (by decide)).mp (show Int32.ofNat xs.length ≤ Int32.ofNat 260 from hd)
  exact ⟨b, xs, Cond.one_arg hc (show args[0]? = some (.ref b) from hb), hx, hN, h⟩
theorem lw_comes (l : Launch) (hflags : l.flags = flags0) : Comes l x (Jvm.Cond.code x code maxLocals ret :: tables_1) room_1 (fun tb e args s => Calls_1 tb e args s ∧ rest_1 tb e args s ∧ Pre_1 tb e args s)
    (fun _ _ args s o t => lw_Q args s o t) := by
  intro p e ha hc hk s m args below hf hfit hheap happ hpre
  obtain ⟨b, xs, hP⟩ := lw_pre_spec hpre.2.2 hpre.2.1
  obtain ⟨k, o, h1, h2, h3, hQ⟩ := lw_walk l hflags b xs p e ha hc hk s m args below hf ((Spec.applies_iff_loose hf).mp happ).1 hP trivial
  exact ⟨k, o, h1, h2, h3, hQ⟩
theorem lw_frame {s t : State} {o : Outcome} {args : Array Value} (h : Framed s o t [] 600000 7302250) :
    Framed s o t (fieldLocs frame_1_writes args s ++ arrayLocs frame_1_arrays args s ++ staticLocs frame_1_statics s) 600000 7302250 := h
theorem lw_limb (L : Cond) (hL : ∀ (args : Array Value) (s t : State), L.after args s (.returned (some (.int 1))) t = true) :
    ArmFor flags0 classFile x code maxLocals ret World_1 tables_1 room_1 Calls_1 rest_1 Pre_1
      (fun tb e a s o t => postC L tb e a s o t ∧ Framed s o t (fieldLocs frame_1_writes a s ++ arrayLocs frame_1_arrays a s ++ staticLocs frame_1_statics s) 600000 7302250) := by
  intro l hflags _ _ p e ha hc hk s m args below hf hfit hheap happ hpre
  obtain ⟨k, o, h1, h2, h3, rfl, hF⟩ := lw_comes l hflags p e ha hc hk s m args below hf hfit hheap happ hpre
  exact ⟨k, _, h1, h2, h3, hL args s _, lw_frame hF⟩
theorem i_vc : Claimed_1_1 ∧ Claimed_1_2 := ⟨lw_limb limb_1_1 (fun args s t => by simp [limb_1_1, Cond.after, Cond.holds, Cond.value]), lw_limb limb_1_2 (fun args s t => Cond.after_iff.mpr (by
  first | (rw [show limb_1_2 = Cond.eq .result (.int 1) from rfl, Cond.eq_ints (x := 1) (y := 1) rfl rfl]; simp; done) | (simp [limb_1_2, Cond.value, Term.eval]; done)))⟩
