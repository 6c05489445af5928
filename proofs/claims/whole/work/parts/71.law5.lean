/-! the law from its entry -/
theorem hs9 {w : Cond} {args : Array Value} {s : State} (h : (Jvm.Cond.and given_1 narrow_1).before args s = true) (hm : w ∈ flatC (Jvm.Cond.and given_1 narrow_1)) : w.before args s = true := flat_of_before _ h w hm
def tm9 (i : Nat) : Term := .string (jsOwn i) (jsIdx i)
theorem k9_1 : ∀ i, i < 9 → (Cond.exactly (tm9 i) "java/lang/String") ∈ flatC (Jvm.Cond.and given_1 narrow_1) := by decide +kernel
theorem k9_2 : ∀ i, i < 9 → (Cond.eq (.field (tm9 i) "java/lang/String" "coder" "B") (.int 0)) ∈ flatC (Jvm.Cond.and given_1 narrow_1) := by decide +kernel
theorem k9_3 : ∀ i, i < 9 → (Cond.arrayOf (.field (tm9 i) "java/lang/String" "value" "[B") .byte) ∈ flatC (Jvm.Cond.and given_1 narrow_1) := by decide +kernel
theorem k9_4 : ∀ i, i < 9 → (Cond.eq (.length (.field (tm9 i) "java/lang/String" "value" "[B")) (.int (Int32.ofNat (jsLen.getD i 0)))) ∈ flatC (Jvm.Cond.and given_1 narrow_1) := by decide +kernel
theorem k9_5 : ∀ i, i < 9 → ∀ j, j < jsLen.getD i 0 → (Cond.eq (.elem (.field (tm9 i) "java/lang/String" "value" "[B") (.int (Int32.ofNat j))) (.int ((jsByt.getD i []).getD j 0))) ∈ flatC (Jvm.Cond.and given_1 narrow_1) := by decide +kernel
theorem k9_6 : ∀ i, i < 9 → ∀ j, j < 9 → i ≠ j → (Cond.not (Cond.eq (tm9 i) (tm9 j))) ∈ flatC (Jvm.Cond.and given_1 narrow_1) ∨ (Cond.not (Cond.eq (tm9 j) (tm9 i))) ∈ flatC (Jvm.Cond.and given_1 narrow_1) := by decide +kernel
theorem k9_7 : (Cond.eq (.static "java/lang/String" "COMPACT_STRINGS" "Z") (.int 1)) ∈ flatC (Jvm.Cond.and given_1 narrow_1) := by decide +kernel
theorem k9_8 : (Cond.isRef (.static "jdk/internal/util/Preconditions" "SIOOBE_FORMATTER" "Ljava/util/function/BiFunction;")) ∈ flatC (Jvm.Cond.and given_1 narrow_1) := by decide +kernel
theorem k9_9 : ∀ i, i < 9 → jsLen.getD i 0 < 2 ^ 31 := by decide +kernel
theorem sr9 : ∀ i, i < 9 → Cond.stringRef (jsOwn i) (jsIdx i) (jsTx i) ∈ lw_tbl := fun i hi => match i, hi with
  | 0, _ => tm3 (List.mem_of_getElem? (i := 15) (by decide +kernel))
  | 1, _ => tm3 (List.mem_of_getElem? (i := 68) (by decide +kernel))
  | 2, _ => tm3 (List.mem_of_getElem? (i := 69) (by decide +kernel))
  | 3, _ => tm3 (List.mem_of_getElem? (i := 70) (by decide +kernel))
  | 4, _ => tm3 (List.mem_of_getElem? (i := 71) (by decide +kernel))
  | 5, _ => tm3 (List.mem_of_getElem? (i := 72) (by decide +kernel))
  | 6, _ => tm3 (List.mem_of_getElem? (i := 73) (by decide +kernel))
  | 7, _ => tm3 (List.mem_of_getElem? (i := 74) (by decide +kernel))
  | 8, _ => tm6 (List.mem_of_getElem? (i := 44) (by decide +kernel))
theorem ls9_1 : Cond.laysStatic "java/lang/String" "COMPACT_STRINGS" "Z" ∈ lw_tbl := by decide +kernel
theorem ls9_2 : Cond.laysStatic "jdk/internal/util/Preconditions" "SIOOBE_FORMATTER" "Ljava/util/function/BiFunction;" ∈ lw_tbl := by decide +kernel
theorem in9_1 : Cond.initialized "java/lang/String" ∈ lw_tbl := tm1 (List.mem_of_getElem? (i := 17) (by decide +kernel))
theorem in9_2 : Cond.initialized "jdk/internal/util/Preconditions" ∈ lw_tbl := tm1 (List.mem_of_getElem? (i := 19) (by decide +kernel))
theorem it9 : ∀ (c : Nat) (q : vw_C), vwCl[c]? = some q → (∀ w ∈ u_ws q.1 q.2.1 q.2.2, w ∈ lw_tbl) ∧ Cond.instantiable q.1 q.2.2 ∈ lw_tbl := fun c q h => match c, h with
  | 0, h => by cases h; exact ⟨inX0, tm2 (List.mem_of_getElem? (i := 16) (by decide +kernel))⟩
  | 1, h => by cases h; exact ⟨inX1, tm2 (List.mem_of_getElem? (i := 87) (by decide +kernel))⟩
  | 2, h => by cases h; exact ⟨inX2, tm2 (List.mem_of_getElem? (i := 47) (by decide +kernel))⟩
  | 3, h => by cases h; exact ⟨inX3, tm1 (List.mem_of_getElem? (i := 37) (by decide +kernel))⟩
  | 4, h => by cases h; exact ⟨inX4, tm2 (List.mem_of_getElem? (i := 113) (by decide +kernel))⟩
  | 5, h => by cases h; exact ⟨inX5, tm1 (List.mem_of_getElem? (i := 31) (by decide +kernel))⟩
  | 6, h => by cases h; exact ⟨inX6, tm1 (List.mem_of_getElem? (i := 82) (by decide +kernel))⟩
  | 7, h => by cases h; exact ⟨inX7, tm1 (List.mem_of_getElem? (i := 220) (by decide +kernel))⟩
  | 8, h => by cases h; exact ⟨inX8, tm2 (List.mem_of_getElem? (i := 31) (by decide +kernel))⟩
  | 9, h => by cases h; exact ⟨inX9, tm2 (List.mem_of_getElem? (i := 130) (by decide +kernel))⟩
  | 10, h => by cases h; exact ⟨inX10, tm2 (List.mem_of_getElem? (i := 70) (by decide +kernel))⟩
  | 11, h => by cases h; exact ⟨inX11, tm1 (List.mem_of_getElem? (i := 23) (by decide +kernel))⟩
  | 12, h => by cases h; exact ⟨inX12, tm5 (List.mem_of_getElem? (i := 127) (by decide +kernel))⟩
  | n + 13, h => by cases h
theorem lw_strs {s : State} {b : Nat} {A : Nat → Prop} (hts : ∀ w ∈ lw_tbl, w.before #[Value.ref b] s = true) (hgv : (Jvm.Cond.and given_1 narrow_1).before #[Value.ref b] s = true) (hA : ∀ a : Nat, a < s.heap.size → ¬ A a) :
    ∃ adK adV : Nat → Nat, vk_S 9 jsLen jsByt adK adV A s s.heap ∧ (∀ i, i < 9 → vk_R (jsOwn i) (jsIdx i) (jsTx i) (adK i) s) ∧ va_Z "java/lang/String" "COMPACT_STRINGS" "Z" (.int 1) A s s.heap ∧ va_Zq "jdk/internal/util/Preconditions" "SIOOBE_FORMATTER" "Ljava/util/function/BiFunction;" A s s.heap := by
  obtain ⟨adK, adV, h1, h2⟩ := vk_Sof (args := #[Value.ref b]) (s := s) (N := 9) (tm := tm9) (len := jsLen) (byt := jsByt) (A := A) k9_9 (fun i hi => hs9 hgv (k9_1 i hi)) (fun i hi => hs9 hgv (k9_2 i hi)) (fun i hi => hs9 hgv (k9_3 i hi)) (fun i hi => hs9 hgv (k9_4 i hi)) (fun i hi j hj => hs9 hgv (k9_5 i hi j hj)) (fun i j hi hj hn => (k9_6 i hi j hj hn).imp (hs9 hgv) (hs9 hgv)) hA
  exact ⟨adK, adV, h1, fun i hi => vk_R.of (hts _ (sr9 i hi)) (h2 i hi), va_Zof (hts _ ls9_1) (hts _ in9_1) (va_eqt (hs9 hgv k9_7)) hA, va_Zqof (hts _ ls9_2) (hts _ in9_2) (hs9 hgv k9_8) hA⟩
theorem lw_kn {s : State} {b : Nat} (hts : ∀ w ∈ lw_tbl, w.before #[Value.ref b] s = true) : ∃ (D : va_G) (cI cB cM : ClassId), va_K D vwCl (tyL cI cB cM) s := by
  have h0 : ∀ c : Nat, ∃ z : ClassId × (Nat → Nat), ∀ q, vwCl[c]? = some q → u_Kn s q.1 q.2.1 q.2.2 z.1 z.2 := by
    intro c
    cases hc : vwCl[c]? with
    | none => exact ⟨(0, fun _ => 0), fun q h => by cases h⟩
    | some q =>
      obtain ⟨hin, hi⟩ := it9 c q hc
      obtain ⟨cC, iS, hk⟩ := u_known (ws := lw_tbl) hts hin (hts _ hi)
      exact ⟨(cC, iS), fun q' h => by cases h; exact hk⟩
  obtain ⟨Z, hZ⟩ := Classical.axiomOfChoice h0
  obtain ⟨cI, kI, compI, i1, i2, i3⟩ := Cond.arrayClass_spec (hts _ wd_int)
  obtain ⟨cB, kB, compB, b1, b2, b3⟩ := Cond.arrayClass_spec (hts _ wd_byte)
  obtain ⟨compM, cM, kM, m1, m2, m3, m4, m5⟩ := Cond.arrayOver_spec (hts _ wd_over)
  refine ⟨(fun c => (Z c).1, fun c => (Z c).2), cI, cB, cM, fun c q h => hZ c q h, fun k q h => ?_⟩
  match k, h with
  | 0, h => cases h; exact ⟨fun n z => ⟨fun k h => (by cases h), kI, i2, compI, i3⟩, i1⟩
  | 1, h => cases h; exact ⟨fun n z => ⟨fun k h => (by cases h), kB, b2, compB, b3⟩, b1⟩
  | 2, h => cases h; exact ⟨fun n z => ⟨fun k h => (by cases h), kM, m3, compM, m4⟩, kM, compM, m3, m4, m1, m5⟩
  | n + 3, h => cases h
/-- YOUR PART: from the entry, for every script of at most 3072 ints, the law comes to its end with true ('hflags': the launch's flags, for a law that throws: no stack traces) -/
theorem whole_start {p : Program} {e : Env} {s : State} {m : MethodId} {below : List Frame} {meth : Method} {c : Code} (l : Launch) (hflags : l.flags = flags0) {b L : Nat} {xs : Nat → Int32} (hL : L ≤ 3072) (C0 : lw_At p s m meth c b L xs) : W p l e room_1 s m #[Value.ref b] below meth c s.heap [] 0 0 (lw_Z below #[Value.ref b] s) (entryFrame m ([Value.ref b] : List Value).toArray 4) := by
  have h : LF (p, l, e, s, m, below, meth, c, b) L xs := C0
  obtain ⟨hx, hb, hr, hml, ho, hts, hX, hbl, hlk, hgv⟩ := C0
  obtain ⟨D, cI, cB, cM, hK⟩ := lw_kn hts
  obtain ⟨adK, adV, s1, s2, s3, s4⟩ := lw_strs (A := fr9 s) hts hgv (fun a h1 h2 => Nat.lt_irrefl _ (Nat.lt_of_lt_of_le h1 h2))
  have hao : va_AO RX5 s := va_AO.of (hts _ wd_over)
  rw [lg_entry_eq]
  refine lw_made (Y := (p, l, e, s, m, below, meth, c, b)) (Lx := L) (xs := xs) (adK, adV) h hK hao (fun w hw2 hWi hwA => ?_) s.heap [] _ ⟨fun k q h => (by rw [List.getElem?_nil] at h; cases h), ⟨fun i j p q h => (by rw [List.getElem?_nil] at h; cases h), fun k q h => (by rw [List.getElem?_nil] at h; cases h)⟩, va_S.rf⟩ (lv_entry ([Value.ref b] : List Value) (n := 4) (Nat.le_of_ble_eq_true rfl))
  obtain ⟨f, w2⟩ := w
  cases hw2
  have hwA : ∀ q, wA (f, D, (cI, cB, cM), (adK, adV)) q → fr9 s q := hwA
  exact lw_loop (w := (f, D, (cI, cB, cM), (adK, adV))) h ⟨hK, ⟨vk_S.narrow s1 hwA, s2, va_Z.narrow s3 hwA, va_Zq.narrow s4 hwA⟩, hWi, hwA⟩ hL (by decide) (by decide) 6201 0 0 σ00 (by decide) (by decide) (by decide) lx00
-- ===== YOUR PART ENDS =====
set_option maxHeartbeats 4000000 in
theorem lw_walk (l : Launch) (hflags : l.flags = flags0) (b : Addr) (xs : List Int32) : MetFree l x (headSpec (Jvm.Cond.code x code maxLocals ret :: tables_1) room_1) (lw_P b xs) (fun _ _ _ _ _ => True) lw_Q := by
  refine MetFree.of_bodyS (code := code) (maxLocals := maxLocals) (ret := ret) (by decide) ?_ ?_
  · intro args s m h hn
    obtain ⟨meth, c, h1, h2, h3, h4, h5, h6, -, -⟩ := Cond.code_spec hn (atoms_spec (ws := Jvm.Cond.code x code maxLocals ret :: tables_1) h _ List.mem_cons_self)
    exact ⟨meth, c, h1, h2, h3, h4, h5, h6⟩
  · intro p e s m args below meth c s₁ B hml0 hP _
    obtain ⟨rfl, hx, hbd, hgv⟩ := hP
    obtain ⟨scr, harrAt, hlist, hof, hsmall⟩ := hx
    obtain ⟨hcb, hkn, -, -⟩ := State.arrayAt?_spec harrAt
    have hown : s.vm.findClass R_law = some m.cls := findClass_of_methodNamed B.named
    have hts0 : ∀ c ∈ (Jvm.Cond.code x code maxLocals ret :: tables_1), c.before #[Value.ref b] s = true := atoms_spec (ws := Jvm.Cond.code x code maxLocals ret :: tables_1) B.pre
    have hts : ∀ w ∈ lw_tbl, w.before #[Value.ref b] s = true := k2_hts_sels lw_privs (fun w hw => hts0 w (List.mem_cons_of_mem _ hw)) lw_privs_ok
    have hml : c.maxLocals = 4 := B.maxLocals_eq (hts0 _ List.mem_cons_self)
    have X₀ : Stand p l e room_1 s m #[Value.ref b] below meth c s₁ [] 0 0 := Stand.of_body B
    have hh0 : s₁.heap = s.heap := by rw [B.state]; rfl
    have hsz : scr.slots.size = xs.length := by rw [← Array.length_toList, hlist, List.length_map]
    have hval : ∀ j : Nat, j < xs.length → scr.slots[j]? = some (.int (xs.getD j 0)) := fun j hj => by
      rw [← Array.getElem?_toList, hlist]
      simp [hj]
    have hbl : b < s.heap.size := (Array.getElem?_eq_some_iff.mp hcb).1
    have hX : va_X b xs.length (fun j => xs.getD j 0) s s.heap := ⟨scr, hcb, hof, hkn, hsz, hval⟩
    have K : W p l e room_1 s m #[Value.ref b] below meth c s₁.heap [] 0 0 (lw_Z below #[Value.ref b] s) (entryFrame m ([Value.ref b] : List Value).toArray 4) := by
      rw [hh0]
      exact whole_start l hflags hbd ⟨B.exec, B.bytes, B.returns, hml, hown, hts, hX, hbl, B.notSynchronized, hgv⟩
    obtain ⟨t, a1, o, b1, b2, b3⟩ := K s₁ rfl X₀
    exact ⟨t, o, a1, b1, b2, b3⟩
theorem lw_pre_spec {args : Array Value} {s : State} (h : (Jvm.Cond.and given_1 narrow_1).before args s = true) (hr : rest_1_c.before args s = true) : ∃ (b : Addr) (xs : List Int32), lw_P b xs args s := by
  have hs := flat_of_before _ h
  have hq := flat_of_before _ hr
  have hc : (Cond.count 1).before args s = true := hs _ (by decide +kernel)
  have harr : (Cond.arrayOf (.arg 0) .int).before args s = true := hs _ (by decide +kernel)
  have hle : (Cond.le (.length (.arg 0)) (.int 3072)).before args s = true := hs _ (by decide +kernel)
  have hlen : (Cond.isInt (.length (.arg 0))).before args s = true := hq _ (by decide +kernel)
  have hall : (Cond.all (.arg 0) (.isInt (.elem (.arg 0) (.index 0)))).before args s = true := hq _ (by decide +kernel)
  obtain ⟨b, xs, hb, hx⟩ := State.ints_of_pre rfl harr hlen hall
  have hsm : xs.length < 2 ^ 31 := hx.choose_spec.2.2.2
  have hev : (Term.length (.arg 0)).eval args s none [] s = some (.int xs.length.toInt32) := hx.length_eval hb
  have hv := Cond.le_ints hev (show (Term.int 3072).eval args s none [] s = some (.int 3072) from rfl)
  have hd : xs.length.toInt32 ≤ 3072 := by
    simpa [Cond.before, Cond.holds, hv] using hle
  have hN : xs.length ≤ 3072 := (Int32.ofNat_le_ofNat hsm (by decide)).mp (show Int32.ofNat xs.length ≤ Int32.ofNat 3072 from hd)
  exact ⟨b, xs, Cond.one_arg hc (show args[0]? = some (.ref b) from hb), hx, hN, h⟩
theorem lw_comes (l : Launch) (hflags : l.flags = flags0) : Comes l x (Jvm.Cond.code x code maxLocals ret :: tables_1) room_1 (fun tb e args s => Calls_1 tb e args s ∧ rest_1 tb e args s ∧ Pre_1 tb e args s)
    (fun _ _ args s o t => lw_Q args s o t) := by
  intro p e ha hc hk s m args below hf hfit hheap happ hpre
  obtain ⟨b, xs, hP⟩ := lw_pre_spec hpre.2.2 hpre.2.1
  obtain ⟨k, o, h1, h2, h3, hQ⟩ := lw_walk l hflags b xs p e ha hc hk s m args below hf ((Spec.applies_iff_loose hf).mp happ).1 hP trivial
  exact ⟨k, o, h1, h2, h3, hQ⟩
theorem lw_frame {s t : State} {o : Outcome} {args : Array Value} (h : Framed s o t [] 600000 7302250) :
    Framed s o t (fieldLocs frame_1_writes args s ++ arrayLocs frame_1_arrays args s ++ staticLocs frame_1_statics s) 600000 7302250 := h
theorem lw_limb (L : Cond) (hL : ∀ (args : Array Value) (s t : State), L.after args s (.returned (some (.int 1))) t = true) :
    ArmFor flags0 classFile x code maxLocals ret World_1 tables_1 room_1 Calls_1 rest_1 Pre_1
      (fun tb e a s o t => postC L tb e a s o t ∧ Framed s o t (fieldLocs frame_1_writes a s ++ arrayLocs frame_1_arrays a s ++ staticLocs frame_1_statics s) 600000 7302250) := by
  intro l hflags _ _ p e ha hc hk s m args below hf hfit hheap happ hpre
  obtain ⟨k, o, h1, h2, h3, rfl, hF⟩ := lw_comes l hflags p e ha hc hk s m args below hf hfit hheap happ hpre
  exact ⟨k, _, h1, h2, h3, hL args s _, lw_frame hF⟩
theorem i_vc : Claimed_1_1 ∧ Claimed_1_2 := ⟨lw_limb limb_1_1 (fun args s t => by simp [limb_1_1, Cond.after, Cond.holds, Cond.value]), lw_limb limb_1_2 (fun args s t => Cond.after_iff.mpr (by
  first | (rw [show limb_1_2 = Cond.eq .result (.int 1) from rfl, Cond.eq_ints (x := 1) (y := 1) rfl rfl]; simp; done) | (simp [limb_1_2, Cond.value, Term.eval]; done)))⟩

