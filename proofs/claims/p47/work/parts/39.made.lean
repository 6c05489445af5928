/-! THE CLAIM OUT OF ONE WALK OF THE LAW'S BODY: begun as the kit's skeleton; lw_made and whole_start are ours -/
def R_law : String := "ChosenRelaysLaw"
def lw_P (b : Addr) (xs : List Int32) (args : Array Value) (s : State) : Prop := args = #[.ref b] ∧ s.IntsAt b xs ∧ xs.length ≤ 260 ∧ (Jvm.Cond.and given_1 narrow_1).before args s = true
def lw_Q (_ : Array Value) (s : State) (o : Outcome) (t : State) : Prop := o = .returned (some (.int 1)) ∧ Framed s o t [] 600000 7302250
def lw_Z (below : List Frame) (a : Array Value) (s : State) : State → Prop := fun t => ∃ o, t.status = .running ∧ Ended t below o ∧ lw_Q a s o t
/-- the law's own end, with 1 on the stack, nothing written that was there before, its room as the claim has it -/
theorem lw_ret {p : Program} {l : Launch} {e : Env} {s : State} {m : MethodId} {below : List Frame} {meth : Method} {c : Code} {b : Nat} (hx : p.tables.exec = Jvm.exec) (hb : c.code = code) (hr : meth.sig.returnType = ret) (hlocks : meth.locks = false) {pc : Nat} {H : Heap} {ls : Array Slot} (hdg : decode code pc = .ok (.ireturn, 1)) : W p l e room_1 s m #[Value.ref b] below meth c H [] 600000 7302250 (lw_Z below #[Value.ref b] s) (F0 m pc ls [.int 1]) := by
  intro T hT X
  obtain ⟨fs, hret, hrun, hended, hW, hframe⟩ := X.leave (v := some (.int 1)) (hlocks := hlocks) (fun h => by rw [hr] at h; cases h)
  have hmeth' : T.vm.method? m = some meth := X.method'
  refine ⟨T.setFrames fs, ?_, .returned (some (.int 1)), hrun, hended, rfl, ⟨_, rfl⟩, hW, hframe⟩
  jvm_step X.here [X.here.top, hx, hb, hdg, hmeth', hr, ret, narrow_b1]
  (try refine ⟨rfl, ?_⟩); (try refine ⟨rfl, ?_⟩)
  first | (intro acts; rw [hret _ acts rfl rfl rfl]) | rw [hret _ _ rfl rfl rfl]
  exact Steps.refl _
/-- what holds at the law's entry: the machine, the code, the tables' words (any of lw_tbl by 'hts w (by decide +kernel)'), the script of L ints xs at the cell b, what the Statement gives of the start (any of its parts by flat_of_before) -/
def lw_At (p : Program) (s : State) (m : MethodId) (meth : Method) (c : Code) (b L : Nat) (xs : Nat → Int32) : Prop :=
  p.tables.exec = Jvm.exec ∧ c.code = code ∧ meth.sig.returnType = ret ∧ c.maxLocals = 18 ∧ s.vm.findClass R_law = some m.cls ∧ (∀ w ∈ lw_tbl, w.before #[Value.ref b] s = true) ∧ va_X b L xs s s.heap ∧ b < s.heap.size ∧ meth.locks = false ∧ (Jvm.Cond.and given_1 narrow_1).before #[Value.ref b] s = true
/-! the law's own walk: over any ground I of the heap -/
abbrev LY : Type := Program × Launch × Env × State × MethodId × List Frame × Method × Code × Nat
def LJ (Y : LY) (I : Heap → List Loc → Prop) (pc : Nat) (L : List (Nat × Value)) (st : List Value) (k N : Nat) : Prop :=
  ∀ (H : Heap) (locs : List Loc) (ls : Array Slot), I H locs → lv_has ls 18 L →
    W Y.1 Y.2.1 Y.2.2.1 room_1 Y.2.2.2.1 Y.2.2.2.2.1 #[Value.ref Y.2.2.2.2.2.2.2.2] Y.2.2.2.2.2.1 Y.2.2.2.2.2.2.1 Y.2.2.2.2.2.2.2.1 H locs k N (lw_Z Y.2.2.2.2.2.1 #[Value.ref Y.2.2.2.2.2.2.2.2] Y.2.2.2.1) (F0 Y.2.2.2.2.1 pc ls st)
def LF (Y : LY) (Lx : Nat) (xs : Nat → Int32) : Prop := lw_At Y.1 Y.2.2.2.1 Y.2.2.2.2.1 Y.2.2.2.2.2.2.1 Y.2.2.2.2.2.2.2.1 Y.2.2.2.2.2.2.2.2 Lx xs
/-- fresh: made since the law's start -/
def fr9 (s : State) : Nat → Prop := fun q => s.heap.size ≤ q
section LJR
variable {Y : LY} {Lx : Nat} {xs : Nat → Int32} {I : Heap → List Loc → Prop} {pc pc' tgt k N : Nat} {L L' : List (Nat × Value)} {st : List Value}
theorem lj_dup {va : Value} (h : LF Y Lx xs) (dd : Dx cL_law pc (.dup) 1 pc') (hva : va.category = 1) (kk : LJ Y I pc' L (va :: va :: st) k N) : LJ Y I pc L (va :: st) k N := by
  obtain ⟨p, l, e, s, m, below, meth, c, b⟩ := Y
  obtain ⟨hx, hb, hr, hml, ho, hts, hX, hbl, hlk, hgv⟩ := h
  obtain ⟨hd, rfl⟩ := dd
  intro H locs ls hI hl
  exact lv_dup hx hb hd hva (kk H locs ls hI hl)
theorem lj_astore_n {q : Fin 4} {x : Nat} (h : LF Y Lx xs) (dd : Dx cL_law pc (.astore_n q) 1 pc') (hc : cat1 L = true) (hn : q.val < 18) (hL : lset q.val (.ref x) L = L') (kk : LJ Y I pc' L' (st) k N) : LJ Y I pc L (.ref x :: st) k N := by
  obtain ⟨p, l, e, s, m, below, meth, c, b⟩ := Y
  obtain ⟨hx, hb, hr, hml, ho, hts, hX, hbl, hlk, hgv⟩ := h
  obtain ⟨hd, rfl⟩ := dd
  intro H locs ls hI hl
  exact lv_astore_n hx hb hd rfl hl hn rfl (fun ls' hl' => kk H locs ls' hI (by rw [← hL]; exact lset_has hc hl'))
end LJR

def I1 (Y : LY) (D : va_G) (ws : va_W) : Heap → List Loc → Prop := fun H locs => va_P D vwCl ws H ∧ va_D (fr9 Y.2.2.2.1) ws ∧ va_S (fr9 Y.2.2.2.1) Y.2.2.2.1.heap H locs
section LJN
variable {Y : LY} {Lx : Nat} {xs : Nat → Int32} {D : va_G} {tys : TYS} {ws ws' : va_W} {pc pc' k N : Nat} {L L' : List (Nat × Value)} {st : List Value}
theorem lj_ws (e : ws = ws') (kk : LJ Y (I1 Y D ws') pc L st k N) : LJ Y (I1 Y D ws) pc L st k N := by subst e; exact kk
theorem lj_new {idx ci NN : Nat} {C : String} {T : u_T} {fs : List Value} (h : LF Y Lx xs) (hK : va_K D vwCl tys Y.2.2.2.1) (dd : Dx cL_law pc (.new idx) 3 pc') (ty : Nat → FieldType) (hty : ∀ k, k < NN → parseFieldDescriptor (T k).2.2.1 = some (ty k)) (hin : ∀ w ∈ u_ws C T NN, w ∈ lw_tbl) (hw : Cond.classLink RL idx C ∈ lw_tbl ∧ Cond.instantiable C NN ∈ lw_tbl ∧ Cond.initialized C ∈ lw_tbl) (hc : vwCl[ci]? = some (C, T, NN)) (hfs : ∀ j, j < NN → defaultValue (ty j) = vp_V fs j) (hcl : k + 1 ≤ 600000) (hsl : N + NN ≤ 7302250)
    (kk : ∀ q, LJ Y (I1 Y D (ws ++ [(q, .inr (ci, fs))])) pc' L (.ref q :: st) (k + 1) (N + NN)) : LJ Y (I1 Y D ws) pc L st k N := by
  obtain ⟨p, l, e, s, m, below, meth, c, b⟩ := Y
  obtain ⟨hx, hb, hr, hml, ho, hts, hX, hbl, hlk9, hgv⟩ := h
  obtain ⟨hd, rfl⟩ := dd
  intro H locs ls hI hl
  obtain ⟨hP, hD, hS⟩ := hI
  exact va_new (Ts := lw_tbl.filter goodWord) hx hb (fun c hc => hts c (List.mem_filter.mp hc).1) (fun c hc => List.mem_filter.mpr ⟨hin c hc, good_lay hc⟩) ty hty ho (hts _ hw.1) (hts _ hw.2.1) (hts _ hw.2.2) hK hP hD hS (fun q z => z) hc hfs hcl hsl hd (fun q H1 hP1 hD1 hS1 => kk q H1 locs ls ⟨hP1, hD1, hS1⟩ hl)
theorem nca_blind {av : List Value} {sz : Nat} {ws : va_W} : FrameBlind (va_Pc av (fun U => (U.heap.size = sz ∧ va_P D vwCl ws U.heap ∧ va_K D vwCl tys U ∧ va_D (fun _ => True) ws) ∧ va_AO RX5 U)) := fun a U g mk q => by
  obtain ⟨q0, ⟨q1, qP, qK, qD⟩, qa⟩ := q
  exact ⟨q0, ⟨q1, qP, va_K.moved (u := U) (U := U.calling g mk a) (Vm.Alike.refl U.vm) qK, qD⟩, va_AO.moved (u := U) (U := U.calling g mk a) (Vm.Alike.refl U.vm) qa⟩
theorem lj_ciA {q : Mq} {d' mc' ms' idx np b9 : Nat} {As rest : List Value} {wc wr : va_W} {P : va_W → Prop} (h : LF Y Lx xs) (hK : va_K D vwCl tys Y.2.2.2.1) (hao : va_AO RX5 Y.2.2.2.1) (hM : NCA Y.2.1 D tys q d' mc' ms' (.ref b9 :: As) wc P) (hq : LmI q np) (hlk : Cond.methodLink RL idx q.1 ∈ lw_tbl) (hret : q.2.2.2 = none) (hd : d' < 9) (hmax : q.2.2.1 < 18) (hn : As.length = np) (hst : st = As.reverse ++ .ref b9 :: rest) (hrest : Nat.ble (rest.map fun v => v.category).sum 8 = true) (dd : Dx cL_law pc (.invokespecial idx) 3 pc')
    (isC isR : List Nat) (hC : isC.map (fun i => ws[i]?) = wc.map some) (hR9 : isR.map (fun i => ws[i]?) = wr.map some) (hn0 : va_nd isC = true) (hn1 : va_nd isR = true) (hdis : ∀ i ∈ isR, i ∉ isC) (hcl : k + mc' ≤ 600000) (hsl : N + ms' ≤ 7302250) (kk : ∀ u, P u → LJ Y (I1 Y D (wr ++ u)) pc' L rest (k + mc') (N + ms')) : LJ Y (I1 Y D ws) pc L st k N := by
  subst hst
  obtain ⟨p, l, e, s, m, below, meth, c, b⟩ := Y
  obtain ⟨hx, hb, hr, hml, ho, hts, hX, hbl, hlk9, hgv⟩ := h
  obtain ⟨hdd, rfl⟩ := dd
  obtain ⟨y, bb, mL, rt⟩ := q
  have hret : rt = none := hret
  subst hret
  obtain ⟨hc1, hc2, hc3, hc4, hc5, hc6, hc7⟩ := hq
  intro H locs ls hI hl
  obtain ⟨hP, hD, hS⟩ := hI
  have hPc := sub_P hP isC hC
  have hDc := hD.sub isC hn0 hC
  have hFc := va_free (wc := wc) hD hS (fun q z => z) isC hC
  refine va_callv (va_runI (Ts := lw_tbl.filter goodWord) (n := np) ⟨hx, hb, hml, ho, fun c hc => hts c (List.mem_filter.mp hc).1⟩ (hM H.size)
      ⟨⟨rfl, rfl, hd, by show 8 + (mL + 11) + 36 * d' ≤ 334; have : mL < 18 := hmax; omega, wsq_ok (q := (y, bb, mL, none)) (fun c hc _ => hts c hc) hc1, List.mem_cons_self, hts _ hc1, hts _ hc4, ⟨hc5, hc6⟩, sq_len hc7, hts _ hlk⟩, hc3, hts _ hc2⟩
      ⟨nca_blind, fun U hU hWU => ⟨rfl, ⟨by rw [hU], by rw [hU]; exact hPc, va_K.moved hWU.alike hK, hDc.weaken (fun _ _ _ _ => trivial)⟩, va_AO.moved hWU.alike hao⟩⟩ rfl hn hl.1 rfl (lv_room (Nat.le_of_ble_eq_true hrest)) hdd ⟨hcl, hsl⟩) hS (fun q _ h => hFc q h) hFc (fun u t H1 locs1 ht hvm hw hB hz1 hk1 hS1 => ?_)
  obtain ⟨hP1, hK1, hD1⟩ := hB
  rw [ht] at hP1
  obtain ⟨hP2, hD2⟩ := va_join hP hD isC isR hC hR9 hn1 hdis hk1 hFc hP1 hD1
  exact kk u hw H1 locs1 ls ⟨hP2, hD2, hS1⟩ hl
end LJN
/-- the law's frame -/
def X9 (Y : LY) : GX := (Y.1, Y.2.1, Y.2.2.1, room_1, Y.2.2.2.1, Y.2.2.2.2.1, #[Value.ref Y.2.2.2.2.2.2.2.2], Y.2.2.2.2.2.1, Y.2.2.2.2.2.2.1, Y.2.2.2.2.2.2.2.1, lw_Z Y.2.2.2.2.2.1 #[Value.ref Y.2.2.2.2.2.2.2.2] Y.2.2.2.1)
set_option maxRecDepth 100000 in
set_option maxHeartbeats 8000000 in
theorem lw_made {Y : LY} {Lx : Nat} {xs : Nat → Int32} {D : va_G} {cI cB cM : ClassId} (S9 : (Nat → Nat) × (Nat → Nat)) (h : LF Y Lx xs) (hK : va_K D vwCl (tyL cI cB cM) Y.2.2.2.1) (hao : va_AO RX5 Y.2.2.2.1)
    (kk : ∀ w : Wd, w.2 = (D, (cI, cB, cM), S9) → Wi w → (∀ q, wA w q → fr9 Y.2.2.2.1 q) → JX (X9 Y) (fr9 Y.2.2.2.1) w [] 18 8 [(0, .ref Y.2.2.2.2.2.2.2.2), (1, .ref (w.1 0))] [] σ00 131 4340) : LJ Y (I1 Y D []) 0 [(0, .ref Y.2.2.2.2.2.2.2.2)] [] 0 0 := by
  refine lj_new (ci := 11) (fs := [.null, .int (nI 0), .int (nI 0), .int (nI 0), .int (nI 0), .null, .null, .null, .int (nI 0), .null, .null, .null, .null, .null, .null, .null, .null]) (C := RX11) (T := TX11) (NN := 17) h hK dL_law_0 tyX11 okX11 inX11 nL_7 rfl (fun j hj => by rcases (show j = 0 ∨ j = 1 ∨ j = 2 ∨ j = 3 ∨ j = 4 ∨ j = 5 ∨ j = 6 ∨ j = 7 ∨ j = 8 ∨ j = 9 ∨ j = 10 ∨ j = 11 ∨ j = 12 ∨ j = 13 ∨ j = 14 ∨ j = 15 ∨ j = 16 by omega) with rfl | rfl | rfl | rfl | rfl | rfl | rfl | rfl | rfl | rfl | rfl | rfl | rfl | rfl | rfl | rfl | rfl <;> rfl) (Nat.le_of_ble_eq_true rfl) (Nat.le_of_ble_eq_true rfl) (fun x1 => ?_)
  refine lj_dup h dL_law_3 rfl ?_
  refine lj_ciA (rest := [.ref x1]) (wc := [(x1, .inr (11, [.null, .int (nI 0), .int (nI 0), .int (nI 0), .int (nI 0), .null, .null, .null, .int (nI 0), .null, .null, .null, .null, .null, .null, .null, .null]))]) (wr := []) h hK hao (nc_X11 x1) lX11_init mL_9 rfl (by decide) (by decide) rfl rfl rfl dL_law_4 [0] [] rfl rfl rfl rfl (by decide) (Nat.le_of_ble_eq_true rfl) (Nat.le_of_ble_eq_true rfl) (fun u hu => ?_)
  refine hu.elim (fun t1 hu => ?_)
  refine hu.elim (fun m1 hu => ?_)
  refine hu.elim (fun ma1 hu => ?_)
  refine hu.elim (fun ma2 hu => ?_)
  refine hu.elim (fun ma3 hu => ?_)
  refine hu.elim (fun ma4 hu => ?_)
  refine hu.elim (fun ma5 hu => ?_)
  refine hu.elim (fun ma6 hu => ?_)
  refine hu.elim (fun ma7 hu => ?_)
  refine hu.elim (fun ma8 hu => ?_)
  refine hu.elim (fun ma9 hu => ?_)
  refine hu.elim (fun ma10 hu => ?_)
  refine hu.elim (fun ma11 hu => ?_)
  refine hu.elim (fun ma12 hu => ?_)
  refine hu.elim (fun ma13 hu => ?_)
  refine hu.elim (fun ma14 hu => ?_)
  refine hu.elim (fun ma15 hu => ?_)
  refine hu.elim (fun ma16 hu => ?_)
  refine hu.elim (fun ma17 hu => ?_)
  refine hu.elim (fun m2 hu => ?_)
  refine hu.elim (fun mb1 hu => ?_)
  refine hu.elim (fun mb2 hu => ?_)
  refine hu.elim (fun mb3 hu => ?_)
  refine hu.elim (fun mb4 hu => ?_)
  refine hu.elim (fun mb5 hu => ?_)
  refine hu.elim (fun mb6 hu => ?_)
  refine hu.elim (fun mb7 hu => ?_)
  refine hu.elim (fun mb8 hu => ?_)
  refine hu.elim (fun mb9 hu => ?_)
  refine hu.elim (fun mb10 hu => ?_)
  refine hu.elim (fun mb11 hu => ?_)
  refine hu.elim (fun mb12 hu => ?_)
  refine hu.elim (fun mb13 hu => ?_)
  refine hu.elim (fun mb14 hu => ?_)
  refine hu.elim (fun mb15 hu => ?_)
  refine hu.elim (fun mb16 hu => ?_)
  refine hu.elim (fun mb17 hu => ?_)
  refine hu.elim (fun m3 hu => ?_)
  refine hu.elim (fun k1 hu => ?_)
  refine hu.elim (fun k1_1 hu => ?_)
  refine hu.elim (fun k1_2 hu => ?_)
  refine hu.elim (fun k1_3 hu => ?_)
  refine hu.elim (fun k1_4 hu => ?_)
  refine hu.elim (fun k1_5 hu => ?_)
  refine hu.elim (fun k1_6 hu => ?_)
  refine hu.elim (fun k1_7 hu => ?_)
  refine hu.elim (fun k1_8 hu => ?_)
  refine hu.elim (fun k1_9 hu => ?_)
  refine hu.elim (fun k1_10 hu => ?_)
  refine hu.elim (fun k1_11 hu => ?_)
  refine hu.elim (fun k1_12 hu => ?_)
  refine hu.elim (fun k1_13 hu => ?_)
  refine hu.elim (fun k1_14 hu => ?_)
  refine hu.elim (fun k1_15 hu => ?_)
  refine hu.elim (fun k1_16 hu => ?_)
  refine hu.elim (fun k1_17 hu => ?_)
  refine hu.elim (fun k2 hu => ?_)
  refine hu.elim (fun k2_1 hu => ?_)
  refine hu.elim (fun k2_2 hu => ?_)
  refine hu.elim (fun k2_3 hu => ?_)
  refine hu.elim (fun k2_4 hu => ?_)
  refine hu.elim (fun k2_5 hu => ?_)
  refine hu.elim (fun k2_6 hu => ?_)
  refine hu.elim (fun k2_7 hu => ?_)
  refine hu.elim (fun k2_8 hu => ?_)
  refine hu.elim (fun k2_9 hu => ?_)
  refine hu.elim (fun k2_10 hu => ?_)
  refine hu.elim (fun k2_11 hu => ?_)
  refine hu.elim (fun k2_12 hu => ?_)
  refine hu.elim (fun k2_13 hu => ?_)
  refine hu.elim (fun k2_14 hu => ?_)
  refine hu.elim (fun k2_15 hu => ?_)
  refine hu.elim (fun k2_16 hu => ?_)
  refine hu.elim (fun k2_17 hu => ?_)
  refine hu.elim (fun k3 hu => ?_)
  refine hu.elim (fun k3_1 hu => ?_)
  refine hu.elim (fun k3_2 hu => ?_)
  refine hu.elim (fun k3_3 hu => ?_)
  refine hu.elim (fun k3_4 hu => ?_)
  refine hu.elim (fun k3_5 hu => ?_)
  refine hu.elim (fun k3_6 hu => ?_)
  refine hu.elim (fun k3_7 hu => ?_)
  refine hu.elim (fun k3_8 hu => ?_)
  refine hu.elim (fun k3_9 hu => ?_)
  refine hu.elim (fun k3_10 hu => ?_)
  refine hu.elim (fun k3_11 hu => ?_)
  refine hu.elim (fun k3_12 hu => ?_)
  refine hu.elim (fun k3_13 hu => ?_)
  refine hu.elim (fun k3_14 hu => ?_)
  refine hu.elim (fun k3_15 hu => ?_)
  refine hu.elim (fun k3_16 hu => ?_)
  refine hu.elim (fun k3_17 hu => ?_)
  refine hu.elim (fun k4 hu => ?_)
  refine hu.elim (fun k4_1 hu => ?_)
  refine hu.elim (fun k4_2 hu => ?_)
  refine hu.elim (fun k4_3 hu => ?_)
  refine hu.elim (fun k4_4 hu => ?_)
  refine hu.elim (fun k4_5 hu => ?_)
  refine hu.elim (fun k4_6 hu => ?_)
  refine hu.elim (fun k4_7 hu => ?_)
  refine hu.elim (fun k4_8 hu => ?_)
  refine hu.elim (fun k4_9 hu => ?_)
  refine hu.elim (fun k4_10 hu => ?_)
  refine hu.elim (fun k4_11 hu => ?_)
  refine hu.elim (fun k4_12 hu => ?_)
  refine hu.elim (fun k4_13 hu => ?_)
  refine hu.elim (fun k4_14 hu => ?_)
  refine hu.elim (fun k4_15 hu => ?_)
  refine hu.elim (fun k4_16 hu => ?_)
  refine hu.elim (fun k4_17 hu => ?_)
  refine hu.elim (fun r1 hu => ?_)
  refine hu.elim (fun r1_1 hu => ?_)
  refine hu.elim (fun r1_2 hu => ?_)
  refine hu.elim (fun r2 hu => ?_)
  refine hu.elim (fun r2_1 hu => ?_)
  refine hu.elim (fun r3 hu => ?_)
  refine hu.elim (fun r3_1 hu => ?_)
  refine hu.elim (fun r3_2 hu => ?_)
  refine hu.elim (fun r4 hu => ?_)
  refine hu.elim (fun r4_1 hu => ?_)
  refine hu.elim (fun r5 hu => ?_)
  refine hu.elim (fun r5_1 hu => ?_)
  refine hu.elim (fun r5_2 hu => ?_)
  refine hu.elim (fun r6 hu => ?_)
  refine hu.elim (fun r6_1 hu => ?_)
  refine hu.elim (fun r7 hu => ?_)
  refine hu.elim (fun r8 hu => ?_)
  refine hu.elim (fun r8_1 hu => ?_)
  refine hu.elim (fun r8_2 hu => ?_)
  refine hu.elim (fun r8_3 hu => ?_)
  subst hu
  refine lj_astore_n (L' := [(0, .ref Y.2.2.2.2.2.2.2.2), (1, .ref x1)]) h dL_law_7 rfl (by decide) rfl ?_
  refine lj_ws (ws' := [(x1, .inr (11, [.ref t1, .int (nI 0), .int (nI 0), .int (-1), .int (-1), .ref m1, .ref m2, .ref m3, .int (nI 0), .ref r1, .ref r2, .ref r3, .ref r4, .ref r5, .ref r6, .ref r7, .ref r8])), (t1, .inl (cB, 400, .inl (fun _ => nI 0))), (m1, .inr (5, [.int (nI 0), .int (nI 0), .int (nI 0), .int (nI 2), .int (nI 6), .int (nI 700), .int (nI 300), .ref ma1, .ref ma2, .ref ma3, .ref ma4, .ref ma11])), (ma1, .inl (cI, 8, .inl (fun _ => nI 0))), (ma2, .inl (cI, 8, .inl (fun _ => nI 0))), (ma3, .inl (cI, 64, .inl (fun _ => nI 0))), (ma4, .inr (3, [.ref ma5, .ref ma6, .ref ma7, .ref ma8, .ref ma9, .ref ma10])), (ma5, .inl (cI, 64, .inl (fun _ => nI 0))), (ma6, .inl (cI, 64, .inl (fun _ => nI 0))), (ma7, .inl (cI, 8, .inl (fun _ => nI 0))), (ma8, .inl (cI, 8, .inl (fun _ => nI 0))), (ma9, .inl (cI, 8, .inl (fun _ => nI 0))), (ma10, .inl (cI, 8, .inl (fun _ => nI 0))), (ma11, .inr (6, [.ref ma12, .ref ma13, .ref ma14, .ref ma15, .ref ma16, .ref ma17, .int (nI 0), .int (nI 0), .int (nI 0)])), (ma12, .inl (cI, 64, .inl (fun _ => nI 0))), (ma13, .inl (cI, 64, .inl (fun _ => nI 0))), (ma14, .inl (cI, 64, .inl (fun _ => nI 0))), (ma15, .inl (cI, 8, .inl (fun _ => nI 0))), (ma16, .inl (cI, 8, .inl (fun _ => nI 0))), (ma17, .inl (cI, 64, .inl (fun _ => nI 0))), (m2, .inr (5, [.int (nI 0), .int (nI 0), .int (nI 0), .int (nI 2), .int (nI 6), .int (nI 700), .int (nI 300), .ref mb1, .ref mb2, .ref mb3, .ref mb4, .ref mb11])), (mb1, .inl (cI, 8, .inl (fun _ => nI 0))), (mb2, .inl (cI, 8, .inl (fun _ => nI 0))), (mb3, .inl (cI, 64, .inl (fun _ => nI 0))), (mb4, .inr (3, [.ref mb5, .ref mb6, .ref mb7, .ref mb8, .ref mb9, .ref mb10])), (mb5, .inl (cI, 64, .inl (fun _ => nI 0))), (mb6, .inl (cI, 64, .inl (fun _ => nI 0))), (mb7, .inl (cI, 8, .inl (fun _ => nI 0))), (mb8, .inl (cI, 8, .inl (fun _ => nI 0))), (mb9, .inl (cI, 8, .inl (fun _ => nI 0))), (mb10, .inl (cI, 8, .inl (fun _ => nI 0))), (mb11, .inr (6, [.ref mb12, .ref mb13, .ref mb14, .ref mb15, .ref mb16, .ref mb17, .int (nI 0), .int (nI 0), .int (nI 0)])), (mb12, .inl (cI, 64, .inl (fun _ => nI 0))), (mb13, .inl (cI, 64, .inl (fun _ => nI 0))), (mb14, .inl (cI, 64, .inl (fun _ => nI 0))), (mb15, .inl (cI, 8, .inl (fun _ => nI 0))), (mb16, .inl (cI, 8, .inl (fun _ => nI 0))), (mb17, .inl (cI, 64, .inl (fun _ => nI 0))), (m3, .inl (cM, 4, .inr (.inr (.inr (.inr (va_up (va_up (va_up (va_up (fun _ => none) 0 (some k1)) 1 (some k2)) 2 (some k3)) 3 (some k4))))))), (k1, .inr (5, [.int (nI 0), .int (nI 0), .int (nI 0), .int (nI 2), .int (nI 6), .int (nI 700), .int (nI 300), .ref k1_1, .ref k1_2, .ref k1_3, .ref k1_4, .ref k1_11])), (k1_1, .inl (cI, 8, .inl (fun _ => nI 0))), (k1_2, .inl (cI, 8, .inl (fun _ => nI 0))), (k1_3, .inl (cI, 64, .inl (fun _ => nI 0))), (k1_4, .inr (3, [.ref k1_5, .ref k1_6, .ref k1_7, .ref k1_8, .ref k1_9, .ref k1_10])), (k1_5, .inl (cI, 64, .inl (fun _ => nI 0))), (k1_6, .inl (cI, 64, .inl (fun _ => nI 0))), (k1_7, .inl (cI, 8, .inl (fun _ => nI 0))), (k1_8, .inl (cI, 8, .inl (fun _ => nI 0))), (k1_9, .inl (cI, 8, .inl (fun _ => nI 0))), (k1_10, .inl (cI, 8, .inl (fun _ => nI 0))), (k1_11, .inr (6, [.ref k1_12, .ref k1_13, .ref k1_14, .ref k1_15, .ref k1_16, .ref k1_17, .int (nI 0), .int (nI 0), .int (nI 0)])), (k1_12, .inl (cI, 64, .inl (fun _ => nI 0))), (k1_13, .inl (cI, 64, .inl (fun _ => nI 0))), (k1_14, .inl (cI, 64, .inl (fun _ => nI 0))), (k1_15, .inl (cI, 8, .inl (fun _ => nI 0))), (k1_16, .inl (cI, 8, .inl (fun _ => nI 0))), (k1_17, .inl (cI, 64, .inl (fun _ => nI 0))), (k2, .inr (5, [.int (nI 0), .int (nI 0), .int (nI 0), .int (nI 2), .int (nI 6), .int (nI 700), .int (nI 300), .ref k2_1, .ref k2_2, .ref k2_3, .ref k2_4, .ref k2_11])), (k2_1, .inl (cI, 8, .inl (fun _ => nI 0))), (k2_2, .inl (cI, 8, .inl (fun _ => nI 0))), (k2_3, .inl (cI, 64, .inl (fun _ => nI 0))), (k2_4, .inr (3, [.ref k2_5, .ref k2_6, .ref k2_7, .ref k2_8, .ref k2_9, .ref k2_10])), (k2_5, .inl (cI, 64, .inl (fun _ => nI 0))), (k2_6, .inl (cI, 64, .inl (fun _ => nI 0))), (k2_7, .inl (cI, 8, .inl (fun _ => nI 0))), (k2_8, .inl (cI, 8, .inl (fun _ => nI 0))), (k2_9, .inl (cI, 8, .inl (fun _ => nI 0))), (k2_10, .inl (cI, 8, .inl (fun _ => nI 0))), (k2_11, .inr (6, [.ref k2_12, .ref k2_13, .ref k2_14, .ref k2_15, .ref k2_16, .ref k2_17, .int (nI 0), .int (nI 0), .int (nI 0)])), (k2_12, .inl (cI, 64, .inl (fun _ => nI 0))), (k2_13, .inl (cI, 64, .inl (fun _ => nI 0))), (k2_14, .inl (cI, 64, .inl (fun _ => nI 0))), (k2_15, .inl (cI, 8, .inl (fun _ => nI 0))), (k2_16, .inl (cI, 8, .inl (fun _ => nI 0))), (k2_17, .inl (cI, 64, .inl (fun _ => nI 0))), (k3, .inr (5, [.int (nI 0), .int (nI 0), .int (nI 0), .int (nI 2), .int (nI 6), .int (nI 700), .int (nI 300), .ref k3_1, .ref k3_2, .ref k3_3, .ref k3_4, .ref k3_11])), (k3_1, .inl (cI, 8, .inl (fun _ => nI 0))), (k3_2, .inl (cI, 8, .inl (fun _ => nI 0))), (k3_3, .inl (cI, 64, .inl (fun _ => nI 0))), (k3_4, .inr (3, [.ref k3_5, .ref k3_6, .ref k3_7, .ref k3_8, .ref k3_9, .ref k3_10])), (k3_5, .inl (cI, 64, .inl (fun _ => nI 0))), (k3_6, .inl (cI, 64, .inl (fun _ => nI 0))), (k3_7, .inl (cI, 8, .inl (fun _ => nI 0))), (k3_8, .inl (cI, 8, .inl (fun _ => nI 0))), (k3_9, .inl (cI, 8, .inl (fun _ => nI 0))), (k3_10, .inl (cI, 8, .inl (fun _ => nI 0))), (k3_11, .inr (6, [.ref k3_12, .ref k3_13, .ref k3_14, .ref k3_15, .ref k3_16, .ref k3_17, .int (nI 0), .int (nI 0), .int (nI 0)])), (k3_12, .inl (cI, 64, .inl (fun _ => nI 0))), (k3_13, .inl (cI, 64, .inl (fun _ => nI 0))), (k3_14, .inl (cI, 64, .inl (fun _ => nI 0))), (k3_15, .inl (cI, 8, .inl (fun _ => nI 0))), (k3_16, .inl (cI, 8, .inl (fun _ => nI 0))), (k3_17, .inl (cI, 64, .inl (fun _ => nI 0))), (k4, .inr (5, [.int (nI 0), .int (nI 0), .int (nI 0), .int (nI 2), .int (nI 6), .int (nI 700), .int (nI 300), .ref k4_1, .ref k4_2, .ref k4_3, .ref k4_4, .ref k4_11])), (k4_1, .inl (cI, 8, .inl (fun _ => nI 0))), (k4_2, .inl (cI, 8, .inl (fun _ => nI 0))), (k4_3, .inl (cI, 64, .inl (fun _ => nI 0))), (k4_4, .inr (3, [.ref k4_5, .ref k4_6, .ref k4_7, .ref k4_8, .ref k4_9, .ref k4_10])), (k4_5, .inl (cI, 64, .inl (fun _ => nI 0))), (k4_6, .inl (cI, 64, .inl (fun _ => nI 0))), (k4_7, .inl (cI, 8, .inl (fun _ => nI 0))), (k4_8, .inl (cI, 8, .inl (fun _ => nI 0))), (k4_9, .inl (cI, 8, .inl (fun _ => nI 0))), (k4_10, .inl (cI, 8, .inl (fun _ => nI 0))), (k4_11, .inr (6, [.ref k4_12, .ref k4_13, .ref k4_14, .ref k4_15, .ref k4_16, .ref k4_17, .int (nI 0), .int (nI 0), .int (nI 0)])), (k4_12, .inl (cI, 64, .inl (fun _ => nI 0))), (k4_13, .inl (cI, 64, .inl (fun _ => nI 0))), (k4_14, .inl (cI, 64, .inl (fun _ => nI 0))), (k4_15, .inl (cI, 8, .inl (fun _ => nI 0))), (k4_16, .inl (cI, 8, .inl (fun _ => nI 0))), (k4_17, .inl (cI, 64, .inl (fun _ => nI 0))), (r1, .inr (7, [.int (nI 0), .int (nI 0), .ref r1_1, .int (nI 0), .int (nI 0), .int (nI 0), .int (nI 0), .ref r1_2, .int (nI 0)])), (r1_1, .inl (cB, 400, .inl (fun _ => nI 0))), (r1_2, .inl (cI, 3, .inl (fun _ => nI 0))), (r2, .inr (0, [.ref r2_1, .int (nI 0)])), (r2_1, .inl (cI, 8, .inl (fun _ => nI 0))), (r3, .inr (8, [.ref r3_1, .ref r3_2])), (r3_1, .inl (cI, 64, .inl (fun _ => nI 0))), (r3_2, .inl (cI, 64, .inl (fun _ => nI 0))), (r4, .inr (2, [.ref r4_1, .int (nI 0), .int (nI 0), .int (nI 0)])), (r4_1, .inl (cI, 9, .inl (fun _ => nI 0))), (r5, .inr (10, [.int (nI 0), .ref r5_1, .ref r5_2])), (r5_1, .inl (cI, 8, .inl (fun _ => nI 0))), (r5_2, .inl (cI, 64, .inl (fun _ => nI 0))), (r6, .inr (1, [.int (nI 0), .int (nI 0), .ref r6_1, .int (nI 0), .int (nI 0)])), (r6_1, .inl (cI, 8, .inl (fun _ => nI 0))), (r7, .inr (4, [.int (nI 0), .int (nI 0), .int (nI 0)])), (r8, .inr (9, [.ref r2, .ref r6, .ref r8_1, .ref r8_2, .ref r8_3])), (r8_1, .inl (cI, 8, .inl (fun _ => nI 0))), (r8_2, .inl (cI, 8, .inl (fun _ => nI 0))), (r8_3, .inl (cI, 8, .inl (fun _ => nI 0)))]) rfl ?_
  intro H locs ls hI hl
  obtain ⟨hP, hD, hS⟩ := hI
  have hwi := wi_start (AD := AD9 x1 t1 m1 ma1 ma2 ma3 ma4 ma5 ma6 ma7 ma8 ma9 ma10 ma11 ma12 ma13 ma14 ma15 ma16 ma17 m2 mb1 mb2 mb3 mb4 mb5 mb6 mb7 mb8 mb9 mb10 mb11 mb12 mb13 mb14 mb15 mb16 mb17 m3 k1 k1_1 k1_2 k1_3 k1_4 k1_5 k1_6 k1_7 k1_8 k1_9 k1_10 k1_11 k1_12 k1_13 k1_14 k1_15 k1_16 k1_17 k2 k2_1 k2_2 k2_3 k2_4 k2_5 k2_6 k2_7 k2_8 k2_9 k2_10 k2_11 k2_12 k2_13 k2_14 k2_15 k2_16 k2_17 k3 k3_1 k3_2 k3_3 k3_4 k3_5 k3_6 k3_7 k3_8 k3_9 k3_10 k3_11 k3_12 k3_13 k3_14 k3_15 k3_16 k3_17 k4 k4_1 k4_2 k4_3 k4_4 k4_5 k4_6 k4_7 k4_8 k4_9 k4_10 k4_11 k4_12 k4_13 k4_14 k4_15 k4_16 k4_17 r1 r1_1 r1_2 r2 r2_1 r3 r3_1 r3_2 r4 r4_1 r5 r5_1 r5_2 r6 r6_1 r7 r8 r8_1 r8_2 r8_3) (PM := PM9) (ws := [(x1, .inr (11, [.ref t1, .int (nI 0), .int (nI 0), .int (-1), .int (-1), .ref m1, .ref m2, .ref m3, .int (nI 0), .ref r1, .ref r2, .ref r3, .ref r4, .ref r5, .ref r6, .ref r7, .ref r8])), (t1, .inl (cB, 400, .inl (fun _ => nI 0))), (m1, .inr (5, [.int (nI 0), .int (nI 0), .int (nI 0), .int (nI 2), .int (nI 6), .int (nI 700), .int (nI 300), .ref ma1, .ref ma2, .ref ma3, .ref ma4, .ref ma11])), (ma1, .inl (cI, 8, .inl (fun _ => nI 0))), (ma2, .inl (cI, 8, .inl (fun _ => nI 0))), (ma3, .inl (cI, 64, .inl (fun _ => nI 0))), (ma4, .inr (3, [.ref ma5, .ref ma6, .ref ma7, .ref ma8, .ref ma9, .ref ma10])), (ma5, .inl (cI, 64, .inl (fun _ => nI 0))), (ma6, .inl (cI, 64, .inl (fun _ => nI 0))), (ma7, .inl (cI, 8, .inl (fun _ => nI 0))), (ma8, .inl (cI, 8, .inl (fun _ => nI 0))), (ma9, .inl (cI, 8, .inl (fun _ => nI 0))), (ma10, .inl (cI, 8, .inl (fun _ => nI 0))), (ma11, .inr (6, [.ref ma12, .ref ma13, .ref ma14, .ref ma15, .ref ma16, .ref ma17, .int (nI 0), .int (nI 0), .int (nI 0)])), (ma12, .inl (cI, 64, .inl (fun _ => nI 0))), (ma13, .inl (cI, 64, .inl (fun _ => nI 0))), (ma14, .inl (cI, 64, .inl (fun _ => nI 0))), (ma15, .inl (cI, 8, .inl (fun _ => nI 0))), (ma16, .inl (cI, 8, .inl (fun _ => nI 0))), (ma17, .inl (cI, 64, .inl (fun _ => nI 0))), (m2, .inr (5, [.int (nI 0), .int (nI 0), .int (nI 0), .int (nI 2), .int (nI 6), .int (nI 700), .int (nI 300), .ref mb1, .ref mb2, .ref mb3, .ref mb4, .ref mb11])), (mb1, .inl (cI, 8, .inl (fun _ => nI 0))), (mb2, .inl (cI, 8, .inl (fun _ => nI 0))), (mb3, .inl (cI, 64, .inl (fun _ => nI 0))), (mb4, .inr (3, [.ref mb5, .ref mb6, .ref mb7, .ref mb8, .ref mb9, .ref mb10])), (mb5, .inl (cI, 64, .inl (fun _ => nI 0))), (mb6, .inl (cI, 64, .inl (fun _ => nI 0))), (mb7, .inl (cI, 8, .inl (fun _ => nI 0))), (mb8, .inl (cI, 8, .inl (fun _ => nI 0))), (mb9, .inl (cI, 8, .inl (fun _ => nI 0))), (mb10, .inl (cI, 8, .inl (fun _ => nI 0))), (mb11, .inr (6, [.ref mb12, .ref mb13, .ref mb14, .ref mb15, .ref mb16, .ref mb17, .int (nI 0), .int (nI 0), .int (nI 0)])), (mb12, .inl (cI, 64, .inl (fun _ => nI 0))), (mb13, .inl (cI, 64, .inl (fun _ => nI 0))), (mb14, .inl (cI, 64, .inl (fun _ => nI 0))), (mb15, .inl (cI, 8, .inl (fun _ => nI 0))), (mb16, .inl (cI, 8, .inl (fun _ => nI 0))), (mb17, .inl (cI, 64, .inl (fun _ => nI 0))), (m3, .inl (cM, 4, .inr (.inr (.inr (.inr (va_up (va_up (va_up (va_up (fun _ => none) 0 (some k1)) 1 (some k2)) 2 (some k3)) 3 (some k4))))))), (k1, .inr (5, [.int (nI 0), .int (nI 0), .int (nI 0), .int (nI 2), .int (nI 6), .int (nI 700), .int (nI 300), .ref k1_1, .ref k1_2, .ref k1_3, .ref k1_4, .ref k1_11])), (k1_1, .inl (cI, 8, .inl (fun _ => nI 0))), (k1_2, .inl (cI, 8, .inl (fun _ => nI 0))), (k1_3, .inl (cI, 64, .inl (fun _ => nI 0))), (k1_4, .inr (3, [.ref k1_5, .ref k1_6, .ref k1_7, .ref k1_8, .ref k1_9, .ref k1_10])), (k1_5, .inl (cI, 64, .inl (fun _ => nI 0))), (k1_6, .inl (cI, 64, .inl (fun _ => nI 0))), (k1_7, .inl (cI, 8, .inl (fun _ => nI 0))), (k1_8, .inl (cI, 8, .inl (fun _ => nI 0))), (k1_9, .inl (cI, 8, .inl (fun _ => nI 0))), (k1_10, .inl (cI, 8, .inl (fun _ => nI 0))), (k1_11, .inr (6, [.ref k1_12, .ref k1_13, .ref k1_14, .ref k1_15, .ref k1_16, .ref k1_17, .int (nI 0), .int (nI 0), .int (nI 0)])), (k1_12, .inl (cI, 64, .inl (fun _ => nI 0))), (k1_13, .inl (cI, 64, .inl (fun _ => nI 0))), (k1_14, .inl (cI, 64, .inl (fun _ => nI 0))), (k1_15, .inl (cI, 8, .inl (fun _ => nI 0))), (k1_16, .inl (cI, 8, .inl (fun _ => nI 0))), (k1_17, .inl (cI, 64, .inl (fun _ => nI 0))), (k2, .inr (5, [.int (nI 0), .int (nI 0), .int (nI 0), .int (nI 2), .int (nI 6), .int (nI 700), .int (nI 300), .ref k2_1, .ref k2_2, .ref k2_3, .ref k2_4, .ref k2_11])), (k2_1, .inl (cI, 8, .inl (fun _ => nI 0))), (k2_2, .inl (cI, 8, .inl (fun _ => nI 0))), (k2_3, .inl (cI, 64, .inl (fun _ => nI 0))), (k2_4, .inr (3, [.ref k2_5, .ref k2_6, .ref k2_7, .ref k2_8, .ref k2_9, .ref k2_10])), (k2_5, .inl (cI, 64, .inl (fun _ => nI 0))), (k2_6, .inl (cI, 64, .inl (fun _ => nI 0))), (k2_7, .inl (cI, 8, .inl (fun _ => nI 0))), (k2_8, .inl (cI, 8, .inl (fun _ => nI 0))), (k2_9, .inl (cI, 8, .inl (fun _ => nI 0))), (k2_10, .inl (cI, 8, .inl (fun _ => nI 0))), (k2_11, .inr (6, [.ref k2_12, .ref k2_13, .ref k2_14, .ref k2_15, .ref k2_16, .ref k2_17, .int (nI 0), .int (nI 0), .int (nI 0)])), (k2_12, .inl (cI, 64, .inl (fun _ => nI 0))), (k2_13, .inl (cI, 64, .inl (fun _ => nI 0))), (k2_14, .inl (cI, 64, .inl (fun _ => nI 0))), (k2_15, .inl (cI, 8, .inl (fun _ => nI 0))), (k2_16, .inl (cI, 8, .inl (fun _ => nI 0))), (k2_17, .inl (cI, 64, .inl (fun _ => nI 0))), (k3, .inr (5, [.int (nI 0), .int (nI 0), .int (nI 0), .int (nI 2), .int (nI 6), .int (nI 700), .int (nI 300), .ref k3_1, .ref k3_2, .ref k3_3, .ref k3_4, .ref k3_11])), (k3_1, .inl (cI, 8, .inl (fun _ => nI 0))), (k3_2, .inl (cI, 8, .inl (fun _ => nI 0))), (k3_3, .inl (cI, 64, .inl (fun _ => nI 0))), (k3_4, .inr (3, [.ref k3_5, .ref k3_6, .ref k3_7, .ref k3_8, .ref k3_9, .ref k3_10])), (k3_5, .inl (cI, 64, .inl (fun _ => nI 0))), (k3_6, .inl (cI, 64, .inl (fun _ => nI 0))), (k3_7, .inl (cI, 8, .inl (fun _ => nI 0))), (k3_8, .inl (cI, 8, .inl (fun _ => nI 0))), (k3_9, .inl (cI, 8, .inl (fun _ => nI 0))), (k3_10, .inl (cI, 8, .inl (fun _ => nI 0))), (k3_11, .inr (6, [.ref k3_12, .ref k3_13, .ref k3_14, .ref k3_15, .ref k3_16, .ref k3_17, .int (nI 0), .int (nI 0), .int (nI 0)])), (k3_12, .inl (cI, 64, .inl (fun _ => nI 0))), (k3_13, .inl (cI, 64, .inl (fun _ => nI 0))), (k3_14, .inl (cI, 64, .inl (fun _ => nI 0))), (k3_15, .inl (cI, 8, .inl (fun _ => nI 0))), (k3_16, .inl (cI, 8, .inl (fun _ => nI 0))), (k3_17, .inl (cI, 64, .inl (fun _ => nI 0))), (k4, .inr (5, [.int (nI 0), .int (nI 0), .int (nI 0), .int (nI 2), .int (nI 6), .int (nI 700), .int (nI 300), .ref k4_1, .ref k4_2, .ref k4_3, .ref k4_4, .ref k4_11])), (k4_1, .inl (cI, 8, .inl (fun _ => nI 0))), (k4_2, .inl (cI, 8, .inl (fun _ => nI 0))), (k4_3, .inl (cI, 64, .inl (fun _ => nI 0))), (k4_4, .inr (3, [.ref k4_5, .ref k4_6, .ref k4_7, .ref k4_8, .ref k4_9, .ref k4_10])), (k4_5, .inl (cI, 64, .inl (fun _ => nI 0))), (k4_6, .inl (cI, 64, .inl (fun _ => nI 0))), (k4_7, .inl (cI, 8, .inl (fun _ => nI 0))), (k4_8, .inl (cI, 8, .inl (fun _ => nI 0))), (k4_9, .inl (cI, 8, .inl (fun _ => nI 0))), (k4_10, .inl (cI, 8, .inl (fun _ => nI 0))), (k4_11, .inr (6, [.ref k4_12, .ref k4_13, .ref k4_14, .ref k4_15, .ref k4_16, .ref k4_17, .int (nI 0), .int (nI 0), .int (nI 0)])), (k4_12, .inl (cI, 64, .inl (fun _ => nI 0))), (k4_13, .inl (cI, 64, .inl (fun _ => nI 0))), (k4_14, .inl (cI, 64, .inl (fun _ => nI 0))), (k4_15, .inl (cI, 8, .inl (fun _ => nI 0))), (k4_16, .inl (cI, 8, .inl (fun _ => nI 0))), (k4_17, .inl (cI, 64, .inl (fun _ => nI 0))), (r1, .inr (7, [.int (nI 0), .int (nI 0), .ref r1_1, .int (nI 0), .int (nI 0), .int (nI 0), .int (nI 0), .ref r1_2, .int (nI 0)])), (r1_1, .inl (cB, 400, .inl (fun _ => nI 0))), (r1_2, .inl (cI, 3, .inl (fun _ => nI 0))), (r2, .inr (0, [.ref r2_1, .int (nI 0)])), (r2_1, .inl (cI, 8, .inl (fun _ => nI 0))), (r3, .inr (8, [.ref r3_1, .ref r3_2])), (r3_1, .inl (cI, 64, .inl (fun _ => nI 0))), (r3_2, .inl (cI, 64, .inl (fun _ => nI 0))), (r4, .inr (2, [.ref r4_1, .int (nI 0), .int (nI 0), .int (nI 0)])), (r4_1, .inl (cI, 9, .inl (fun _ => nI 0))), (r5, .inr (10, [.int (nI 0), .ref r5_1, .ref r5_2])), (r5_1, .inl (cI, 8, .inl (fun _ => nI 0))), (r5_2, .inl (cI, 64, .inl (fun _ => nI 0))), (r6, .inr (1, [.int (nI 0), .int (nI 0), .ref r6_1, .int (nI 0), .int (nI 0)])), (r6_1, .inl (cI, 8, .inl (fun _ => nI 0))), (r7, .inr (4, [.int (nI 0), .int (nI 0), .int (nI 0)])), (r8, .inr (9, [.ref r2, .ref r6, .ref r8_1, .ref r8_2, .ref r8_3])), (r8_1, .inl (cI, 8, .inl (fun _ => nI 0))), (r8_2, .inl (cI, 8, .inl (fun _ => nI 0))), (r8_3, .inl (cI, 8, .inl (fun _ => nI 0)))]) rfl rfl pm9 hD
  exact kk ((fun i => (AD9 x1 t1 m1 ma1 ma2 ma3 ma4 ma5 ma6 ma7 ma8 ma9 ma10 ma11 ma12 ma13 ma14 ma15 ma16 ma17 m2 mb1 mb2 mb3 mb4 mb5 mb6 mb7 mb8 mb9 mb10 mb11 mb12 mb13 mb14 mb15 mb16 mb17 m3 k1 k1_1 k1_2 k1_3 k1_4 k1_5 k1_6 k1_7 k1_8 k1_9 k1_10 k1_11 k1_12 k1_13 k1_14 k1_15 k1_16 k1_17 k2 k2_1 k2_2 k2_3 k2_4 k2_5 k2_6 k2_7 k2_8 k2_9 k2_10 k2_11 k2_12 k2_13 k2_14 k2_15 k2_16 k2_17 k3 k3_1 k3_2 k3_3 k3_4 k3_5 k3_6 k3_7 k3_8 k3_9 k3_10 k3_11 k3_12 k3_13 k3_14 k3_15 k3_16 k3_17 k4 k4_1 k4_2 k4_3 k4_4 k4_5 k4_6 k4_7 k4_8 k4_9 k4_10 k4_11 k4_12 k4_13 k4_14 k4_15 k4_16 k4_17 r1 r1_1 r1_2 r2 r2_1 r3 r3_1 r3_2 r4 r4_1 r5 r5_1 r5_2 r6 r6_1 r7 r8 r8_1 r8_2 r8_3).getD (PM9.getD i 0) 0), D, (cI, cB, cM), S9) rfl hwi.1 hwi.2 H locs ls ⟨hp_start x1 t1 m1 ma1 ma2 ma3 ma4 ma5 ma6 ma7 ma8 ma9 ma10 ma11 ma12 ma13 ma14 ma15 ma16 ma17 m2 mb1 mb2 mb3 mb4 mb5 mb6 mb7 mb8 mb9 mb10 mb11 mb12 mb13 mb14 mb15 mb16 mb17 m3 k1 k1_1 k1_2 k1_3 k1_4 k1_5 k1_6 k1_7 k1_8 k1_9 k1_10 k1_11 k1_12 k1_13 k1_14 k1_15 k1_16 k1_17 k2 k2_1 k2_2 k2_3 k2_4 k2_5 k2_6 k2_7 k2_8 k2_9 k2_10 k2_11 k2_12 k2_13 k2_14 k2_15 k2_16 k2_17 k3 k3_1 k3_2 k3_3 k3_4 k3_5 k3_6 k3_7 k3_8 k3_9 k3_10 k3_11 k3_12 k3_13 k3_14 k3_15 k3_16 k3_17 k4 k4_1 k4_2 k4_3 k4_4 k4_5 k4_6 k4_7 k4_8 k4_9 k4_10 k4_11 k4_12 k4_13 k4_14 k4_15 k4_16 k4_17 r1 r1_1 r1_2 r2 r2_1 r3 r3_1 r3_2 r4 r4_1 r5 r5_1 r5_2 r6 r6_1 r7 r8 r8_1 r8_2 r8_3 hP, fun k q h => (by rw [List.getElem?_nil] at h; cases h)⟩ hS hl
