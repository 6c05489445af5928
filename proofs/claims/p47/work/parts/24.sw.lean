/-! small worlds: what constructors make -/
def rmC (d mc ms : Nat) : Room := { frames := d, cells := mc, slots := ms, locals := 36 * d }
abbrev TYS : Type := List (ClassId × FieldType)
def FxS (X : GX) (D : va_G) (tys : TYS) (cc : ByteArray) (n : Nat) (own : String) (d mc ms : Nat) : Prop :=
  X.1.tables.exec = Jvm.exec ∧ X.2.2.2.2.2.2.2.2.2.1.code = cc ∧ X.2.2.2.2.2.2.2.2.2.1.maxLocals = n ∧ X.2.2.2.2.1.vm.findClass own = some X.2.2.2.2.2.1.cls ∧
  (∀ c ∈ lw_tbl, goodWord c = true → c.before X.2.2.2.2.2.2.1 X.2.2.2.2.1 = true) ∧ X.2.2.2.2.2.2.2.2.1.locks = false ∧ X.2.2.2.1 = rmC d mc ms ∧ va_K D vwCl tys X.2.2.2.2.1
def SG (X : GX) (D : va_G) (A : Nat → Prop) (n pc : Nat) (L : List (Nat × Value)) (st : List Value) (ws : va_W) (k N : Nat) : Prop :=
  (∀ q, X.2.2.2.2.1.heap.size ≤ q → A q) → ∀ (H : Heap) (locs : List Loc) (ls : Array Slot), va_P D vwCl ws H → va_D A ws → va_S A X.2.2.2.2.1.heap H locs → lv_has ls n L →
    W X.1 X.2.1 X.2.2.1 X.2.2.2.1 X.2.2.2.2.1 X.2.2.2.2.2.1 X.2.2.2.2.2.2.1 X.2.2.2.2.2.2.2.1 X.2.2.2.2.2.2.2.2.1 X.2.2.2.2.2.2.2.2.2.1 H locs k N X.2.2.2.2.2.2.2.2.2.2 (F0 X.2.2.2.2.2.1 pc ls st)
def QnB (D : va_G) (tys : TYS) (A : Nat → Prop) (u : va_W) (t : State) : Prop := va_P D vwCl u t.heap ∧ va_K D vwCl tys t ∧ va_D A u
/-- a constructor's contract (and of what it calls): from the cells ws it comes to cells of P, making mc cells of ms slots -/
def NC (l : Launch) (D : va_G) (tys : TYS) (q : Mq) (d mc ms : Nat) (av : List Value) (ws : va_W) (P : va_W → Prop) : Prop :=
  ∀ sz, Met l q.1 (wsq q) (rmC d mc ms) (va_Pc av (fun U => U.heap.size = sz ∧ va_P D vwCl ws U.heap ∧ va_K D vwCl tys U ∧ va_D (fun _ => True) ws)) (va_Qv P (QnB D tys (va_A ws sz)) (va_A ws sz)) mc ms (va_A ws sz)
def QxS (X : GX) (D : va_G) (tys : TYS) (A : Nat → Prop) (P : va_W → Prop) (mc ms : Nat) : Prop :=
  X.2.2.2.2.2.2.2.2.2.2 = MQ X.2.2.2.2.2.2.2.1 (va_Qv P (QnB D tys A) A) X.2.2.2.2.2.2.1 X.2.2.2.2.1 mc ms A ∧ X.2.2.2.2.2.2.2.2.1.sig.returnType = none
theorem NC.of {l : Launch} {D : va_G} {tys : TYS} {q : Mq} {d mc ms : Nat} {av : List Value} {ws : va_W} {P : va_W → Prop} (hr : q.2.2.2 = none) (hpl : plainFor q.1 = true) (hn : (lg_sl av).length ≤ q.2.2.1)
    (body : ∀ (X : GX) (A : Nat → Prop), X.2.1 = l → FxS X D tys q.2.1 q.2.2.1 q.1.cls d mc ms → QxS X D tys A P mc ms → X.2.2.2.2.2.2.2.2.1.name = q.1.name → SG X D A q.2.2.1 0 (lv_args 0 av) [] ws 0 0) : NC l D tys q d mc ms av ws P := by
  intro sz
  unfold Met
  refine MetFree.of_bodySF (code := q.2.1) (maxLocals := q.2.2.1) (ret := q.2.2.2) hpl ?_ ?_
  · intro args s m h hn
    obtain ⟨meth, c, h1, h2, h3, h4, h5, h6, -, -⟩ := Cond.code_spec hn (atoms_spec (ws := wsq q) h _ List.mem_cons_self)
    exact ⟨meth, c, h1, h2, h3, h4, h5, h6⟩
  · intro p e s m args below meth c s₁ B hml hv _
    have hh0 : s₁.heap = s.heap := by rw [B.state]; rfl
    obtain ⟨rfl, hsz, hP, hK, hD0⟩ := hv
    subst hsz
    have hts := atoms_spec (ws := wsq q) B.pre
    have h := body (p, l, e, rmC d mc ms, s, m, av.toArray, below, meth, c, MQ below (va_Qv P (QnB D tys (va_A ws s.heap.size)) (va_A ws s.heap.size)) av.toArray s mc ms (va_A ws s.heap.size)) (va_A ws s.heap.size) rfl
      ⟨B.exec, B.bytes, hml, findClass_of_methodNamed B.named, fun c hc hg => hts c (List.mem_cons_of_mem _ (List.mem_filter.mpr ⟨hc, hg⟩)), B.notSynchronized, rfl, hK⟩ ⟨rfl, by rw [B.returns, hr]⟩ (name_of_methodNamed B.named B.method).1
    have hl := lv_entry av (n := q.2.2.1) hn
    rw [lg_entry_eq]
    obtain ⟨t, a1, o, b1, b2, b3⟩ := h (fun q h9 => Or.inr h9) s.heap [] _ hP hD0.self va_S.rf hl s₁ hh0 (Stand.of_body B)
    exact ⟨t, o, a1, b1, b2, ⟨b3.1, b3.2⟩⟩
section SR
variable {X : GX} {D : va_G} {tys : TYS} {A : Nat → Prop} {cc : ByteArray} {n pc pc' tgt d mc ms k N : Nat} {own : String} {L L' : List (Nat × Value)} {st : List Value} {ws : va_W}
theorem sg_aload_n {q : Fin 4} {x : Nat} (h : FxS X D tys cc n own d mc ms) (dd : Dx cc pc (.aload_n q) 1 pc') (j : Nat) (hj : L[j]? = some (q.val, .ref x)) (kk : SG X D A n pc' L (.ref x :: st) ws k N) : SG X D A n pc L st ws k N := by
  obtain ⟨p, l, e, R, s, m, args, below, meth, c, Q⟩ := X
  obtain ⟨hx, hb, hml, ho, hts, hlk, hR, hK⟩ := h
  obtain ⟨hd, rfl⟩ := dd
  intro hA H locs ls hP hD hS hl
  exact lv_aload_n hx hb hd rfl (lv_at hl j hj) (kk hA H locs ls hP hD hS hl)
theorem sg_iload_n {q : Fin 4} {x : Int32} (h : FxS X D tys cc n own d mc ms) (dd : Dx cc pc (.iload_n q) 1 pc') (j : Nat) (hj : L[j]? = some (q.val, .int x)) (kk : SG X D A n pc' L (.int x :: st) ws k N) : SG X D A n pc L st ws k N := by
  obtain ⟨p, l, e, R, s, m, args, below, meth, c, Q⟩ := X
  obtain ⟨hx, hb, hml, ho, hts, hlk, hR, hK⟩ := h
  obtain ⟨hd, rfl⟩ := dd
  intro hA H locs ls hP hD hS hl
  exact lv_iload_n hx hb hd rfl (lv_at hl j hj) (kk hA H locs ls hP hD hS hl)
theorem sg_iconst {z : Nat} (h : FxS X D tys cc n own d mc ms) (dd : Dx cc pc (.iconst (Int.ofNat z)) 1 pc') (hz : z < 100) (kk : SG X D A n pc' L (.int (nI z) :: st) ws k N) : SG X D A n pc L st ws k N := by
  obtain ⟨p, l, e, R, s, m, args, below, meth, c, Q⟩ := X
  obtain ⟨hx, hb, hml, ho, hts, hlk, hR, hK⟩ := h
  obtain ⟨hd, rfl⟩ := dd
  intro hA H locs ls hP hD hS hl
  exact lv_iconst hx hb hd (ofInt_nat z (by omega)) (kk hA H locs ls hP hD hS hl)
theorem sg_iconstv {i : Int} {v : Int32} (h : FxS X D tys cc n own d mc ms) (dd : Dx cc pc (.iconst i) 1 pc') (hv : Int32.ofInt i = v) (kk : SG X D A n pc' L (.int v :: st) ws k N) : SG X D A n pc L st ws k N := by
  obtain ⟨p, l, e, R, s, m, args, below, meth, c, Q⟩ := X
  obtain ⟨hx, hb, hml, ho, hts, hlk, hR, hK⟩ := h
  obtain ⟨hd, rfl⟩ := dd
  intro hA H locs ls hP hD hS hl
  exact lv_iconst hx hb hd hv (kk hA H locs ls hP hD hS hl)
theorem sg_bipush {z : Nat} (h : FxS X D tys cc n own d mc ms) (dd : Dx cc pc (.bipush (Int.ofNat z)) 2 pc') (hz : z < 128) (kk : SG X D A n pc' L (.int (nI z) :: st) ws k N) : SG X D A n pc L st ws k N := by
  obtain ⟨p, l, e, R, s, m, args, below, meth, c, Q⟩ := X
  obtain ⟨hx, hb, hml, ho, hts, hlk, hR, hK⟩ := h
  obtain ⟨hd, rfl⟩ := dd
  intro hA H locs ls hP hD hS hl
  exact lv_bipush hx hb hd (si8 z hz) (kk hA H locs ls hP hD hS hl)
theorem sg_sipush {z : Nat} (h : FxS X D tys cc n own d mc ms) (dd : Dx cc pc (.sipush (Int.ofNat z)) 3 pc') (hz : z < 32768) (kk : SG X D A n pc' L (.int (nI z) :: st) ws k N) : SG X D A n pc L st ws k N := by
  obtain ⟨p, l, e, R, s, m, args, below, meth, c, Q⟩ := X
  obtain ⟨hx, hb, hml, ho, hts, hlk, hR, hK⟩ := h
  obtain ⟨hd, rfl⟩ := dd
  intro hA H locs ls hP hD hS hl
  exact lv_sipush hx hb hd (si16 hz) (kk hA H locs ls hP hD hS hl)
theorem sg_dup {va : Value} (h : FxS X D tys cc n own d mc ms) (dd : Dx cc pc (.dup) 1 pc') (hva : va.category = 1) (kk : SG X D A n pc' L (va :: va :: st) ws k N) : SG X D A n pc L (va :: st) ws k N := by
  obtain ⟨p, l, e, R, s, m, args, below, meth, c, Q⟩ := X
  obtain ⟨hx, hb, hml, ho, hts, hlk, hR, hK⟩ := h
  obtain ⟨hd, rfl⟩ := dd
  intro hA H locs ls hP hD hS hl
  exact lv_dup hx hb hd hva (kk hA H locs ls hP hD hS hl)
theorem sg_istore_n {q : Fin 4} {x : Int32} (h : FxS X D tys cc n own d mc ms) (dd : Dx cc pc (.istore_n q) 1 pc') (hc : cat1 L = true) (hn : q.val < n) (hL : lset q.val (.int x) L = L') (kk : SG X D A n pc' L' st ws k N) : SG X D A n pc L (.int x :: st) ws k N := by
  obtain ⟨p, l, e, R, s, m, args, below, meth, c, Q⟩ := X
  obtain ⟨hx, hb, hml, ho, hts, hlk, hR, hK⟩ := h
  obtain ⟨hd, rfl⟩ := dd
  intro hA H locs ls hP hD hS hl
  exact lv_istore_n hx hb hd rfl hl hn rfl (fun ls' hl' => kk hA H locs ls' hP hD hS (by rw [← hL]; exact lset_has hc hl'))
theorem sg_iinc {i a b : Nat} (h : FxS X D tys cc n own d mc ms) (dd : Dx cc pc (.iinc i (Int.ofNat b)) 3 pc') (j : Nat) (hj : L[j]? = some (i, .int (nI a))) (hc : cat1 L = true) (hn : i < n) (hb9 : b < 100) (hL : lset i (.int (nI (a + b))) L = L') (kk : SG X D A n pc' L' st ws k N) : SG X D A n pc L st ws k N := by
  obtain ⟨p, l, e, R, s, m, args, below, meth, c, Q⟩ := X
  obtain ⟨hx, hb, hml, ho, hts, hlk, hR, hK⟩ := h
  obtain ⟨hd, rfl⟩ := dd
  intro hA H locs ls hP hD hS hl
  exact lv_iinc hx hb hd hl (k := j) hj (by rw [ofInt_nat b (by omega), nI_add]) hn rfl (fun ls' hl' => kk hA H locs ls' hP hD hS (by rw [← hL]; exact lset_has hc hl'))
theorem sg_goto (h : FxS X D tys cc n own d mc ms) (dd : Dg cc pc tgt) (kk : SG X D A n tgt L st ws k N) : SG X D A n pc L st ws k N := by
  obtain ⟨p, l, e, R, s, m, args, below, meth, c, Q⟩ := X
  obtain ⟨hx, hb, hml, ho, hts, hlk, hR, hK⟩ := h
  obtain ⟨off, hd, ht⟩ := dd
  intro hA H locs ls hP hD hS hl
  exact lv_goto hx hb hd ht (kk hA H locs ls hP hD hS hl)
theorem sg_icmp_ge {x y : Int32} (h : FxS X D tys cc n own d mc ms) (dd : Dc cc pc .ge tgt pc') (kt : y ≤ x → SG X D A n tgt L st ws k N) (kf : ¬ (y ≤ x) → SG X D A n pc' L st ws k N) : SG X D A n pc L (.int y :: .int x :: st) ws k N := by
  obtain ⟨p, l, e, R, s, m, args, below, meth, c, Q⟩ := X
  obtain ⟨hx, hb, hml, ho, hts, hlk, hR, hK⟩ := h
  obtain ⟨off, hd, ht, rfl⟩ := dd
  intro hA H locs ls hP hD hS hl
  exact lv_icmp_ge hx hb hd ht (fun q => kt q hA H locs ls hP hD hS hl) (fun q => kf q hA H locs ls hP hD hS hl)
theorem sg_new {idx ci NN : Nat} {C : String} {T : u_T} {fs : List Value} (h : FxS X D tys cc n own d mc ms) (dd : Dx cc pc (.new idx) 3 pc') (ty : Nat → FieldType) (hty : ∀ k, k < NN → parseFieldDescriptor (T k).2.2.1 = some (ty k)) (hin : ∀ w ∈ u_ws C T NN, w ∈ lw_tbl) (hw : Cond.classLink own idx C ∈ lw_tbl ∧ Cond.instantiable C NN ∈ lw_tbl ∧ Cond.initialized C ∈ lw_tbl) (hc : vwCl[ci]? = some (C, T, NN)) (hfs : ∀ j, j < NN → defaultValue (ty j) = vp_V fs j) (hcl : k + 1 ≤ mc) (hsl : N + NN ≤ ms)
    (kk : ∀ q, SG X D A n pc' L (.ref q :: st) (ws ++ [(q, .inr (ci, fs))]) (k + 1) (N + NN)) : SG X D A n pc L st ws k N := by
  obtain ⟨p, l, e, R, s, m, args, below, meth, c, Q⟩ := X
  obtain ⟨hx, hb, hml, ho, hts, hlk, hR, hK⟩ := h
  obtain ⟨hd, rfl⟩ := dd
  have hR' : R = rmC d mc ms := hR
  subst hR'
  intro hA H locs ls hP hD hS hl
  exact va_new (Ts := lw_tbl.filter goodWord) hx hb (fun c hc => hts c (List.mem_filter.mp hc).1 (List.mem_filter.mp hc).2) (fun c hc => List.mem_filter.mpr ⟨hin c hc, good_lay hc⟩) ty hty ho (hts _ hw.1 rfl) (hts _ hw.2.1 rfl) (hts _ hw.2.2 rfl) hK hP hD hS hA hc hfs hcl hsl hd (fun q H1 hP1 hD1 hS1 => kk q hA H1 locs ls hP1 hD1 hS1 hl)
theorem sg_objInit {idx a : Nat} (h : FxS X D tys cc n own d mc ms) (dd : Dx cc pc (.invokespecial idx) 3 pc') (hlk : Cond.methodLink own idx ⟨"java/lang/Object", "<init>", "()V"⟩ ∈ lw_tbl) (hi : Cond.instanceMethod ⟨"java/lang/Object", "<init>", "()V"⟩ ∈ lw_tbl) (hcd : Cond.code ⟨"java/lang/Object", "<init>", "()V"⟩ ⟨#[0xb1]⟩ 1 none ∈ lw_tbl) (hd9 : 0 < d) (hrest : Nat.ble (st.map fun v => v.category).sum 8 = true) (kk : SG X D A n pc' L st ws k N) : SG X D A n pc L (.ref a :: st) ws k N := by
  obtain ⟨p, l, e, R, s, m, args, below, meth, c, Q⟩ := X
  obtain ⟨hx, hb, hml, ho, hts, hlks, hR, hK⟩ := h
  obtain ⟨hd, rfl⟩ := dd
  have hR' : R = rmC d mc ms := hR
  subst hR'
  intro hA H locs ls hP hD hS hl
  have hr := Nat.le_of_ble_eq_true hrest
  refine W.objInit hx hb ho (hts _ hlk rfl) (hts _ hi rfl) (hts _ hcd rfl) rfl (by show ls.size = _; rw [hl.1]; exact hml.symm) rfl hd hd9 (by show 2 * 0 + _ + 12 ≤ 36 * d; omega) ?_
  exact W.eq (g2 := F0 m (pc + 3) ls st) rfl (kk hA H locs ls hP hD hS hl)
/-- an array of ints or bytes, of a class that is known -/
theorem sg_newa {ty : FieldType} {atype : ArrayType} {t0 Z : Nat} {cA : ClassId} (h : FxS X D tys cc n own d mc ms) (dd : Dx cc pc (.newarray atype) 2 pc') (hty : newarray.typeOf atype = ty) (hw : Cond.arrayClass ty ∈ lw_tbl) (hg : goodWord (Cond.arrayClass ty) = true) (ht : tys[t0]? = some (cA, ty)) (hprim : (ty = .int ∨ ty = .byte)) (hZ : Z < 4000) (hcl : k + 1 ≤ mc) (hsl : N + Z ≤ ms)
    (kk : ∀ q, SG X D A n pc' L (.ref q :: st) (ws ++ [(q, .inl (cA, Z, .inl fun _ => nI 0))]) (k + 1) (N + Z)) : SG X D A n pc L (.int (nI Z) :: st) ws k N := by
  obtain ⟨p, l, e, R, s, m, args, below, meth, c, Q⟩ := X
  obtain ⟨hx, hb, hml, ho, hts, hlks, hR, hK⟩ := h
  obtain ⟨hd, rfl⟩ := dd
  have hR' : R = rmC d mc ms := hR
  subst hR'
  have e1 : (nI Z).toNatClampNeg = Z := nI_clamp (by omega)
  intro hA H locs ls hP hD hS hl
  have hcA : s.vm.findClass ("[" ++ ty.toString) = some cA := by
    have := (hK.2 t0 _ ht).2
    rcases hprim with rfl | rfl <;> exact this
  refine va_newa hx hb (by rw [hty]; exact hts _ hw hg) hty hK hP hD hS hA (N' := Z) (a0 := (Z, .inl fun _ => nI 0)) (fun cA => by rw [vp_cell_i]; rcases hprim with rfl | rfl <;> rfl) (nI_pos (by omega)) e1 (by rcases hprim with rfl | rfl <;> (show Z * _ ≤ _; simp only [componentBytes]; omega)) hcl hsl hd (fun q cB H1 hK1 hP1 hD1 hS1 => ?_)
  have hcB : cB = cA := by
    have h2 := (hK1.2 tys.length (cB, ty) (by simp)).2
    have h3 : s.vm.findClass ("[" ++ ty.toString) = some cB := by rcases hprim with rfl | rfl <;> exact h2
    exact Option.some.inj (h3.symm.trans hcA)
  subst hcB
  exact kk q hA H1 locs ls hP1 hD1 hS1 hl
theorem sg_putF {idx ci j q0 a x NN : Nat} {C : String} {T : u_T} {ty0 : Nat → FieldType} {ty : FieldType} {fs : List Value} (h : FxS X D tys cc n own d mc ms) (dd : Dx cc pc (.putfield idx) 3 pc') (hf : Fl own idx C T NN j) (hc : vwCl[ci]? = some (C, T, NN)) (hj : j < NN) (hC : (T j).1 = C) (hty : ∀ k, k < NN → parseFieldDescriptor (T k).2.2.1 = some (ty0 k)) (hnm : ∀ a, a < NN → ∀ b, b < NN → a ≠ b → (T a).2.1 ≠ (T b).2.1) (hfin : (T j).2.2.2 = true) (hin : X.2.2.2.2.2.2.2.2.1.name = "<init>") (hown : (T j).1 = own) (hd9 : parseFieldDescriptor (T j).2.2.1 = some ty) (hn9 : narrow ty (.ref x) = .ref x) (hft : fits ty (.ref x) = true) (he : ws[q0]? = some (a, .inr (ci, fs))) (hlen : j < fs.length)
    (kk : SG X D A n pc' L st (ws.set q0 (a, .inr (ci, fs.set j (.ref x)))) k N) : SG X D A n pc L (.ref x :: .ref a :: st) ws k N := by
  obtain ⟨p, l, e, R, s, m, args, below, meth, c, Q⟩ := X
  obtain ⟨hx, hb, hml, ho, hts, hlks, hR, hK⟩ := h
  obtain ⟨hd, rfl⟩ := dd
  intro hA H locs ls hP hD hS hl
  exact va_putF (Ts := lw_tbl.filter goodWord) hx hb (fun c hc => hts c (List.mem_filter.mp hc).1 (List.mem_filter.mp hc).2) (fun c hc => List.mem_filter.mpr ⟨hf.2 c hc, good_lay hc⟩) ty0 hty hnm ho hK hP hD hS q0 he hc j hj (hts _ hf.1 rfl) (fun _ q => by rw [hC] at q; exact q) hfin hin hown hd9 hn9 hft hlen hd (fun H1 locs1 hP1 hD1 hS1 => kk hA H1 locs1 ls hP1 hD1 hS1 hl)
theorem sg_puti {idx ci j q0 a NN : Nat} {x : Int32} {C : String} {T : u_T} {ty0 : Nat → FieldType} {fs : List Value} (h : FxS X D tys cc n own d mc ms) (dd : Dx cc pc (.putfield idx) 3 pc') (hf : Fl own idx C T NN j) (hc : vwCl[ci]? = some (C, T, NN)) (hj : j < NN) (hC : (T j).1 = C) (hty : ∀ k, k < NN → parseFieldDescriptor (T k).2.2.1 = some (ty0 k)) (hnm : ∀ a, a < NN → ∀ b, b < NN → a ≠ b → (T a).2.1 ≠ (T b).2.1) (hfin : (T j).2.2.2 = false) (hd9 : parseFieldDescriptor (T j).2.2.1 = some .int) (he : ws[q0]? = some (a, .inr (ci, fs))) (hlen : j < fs.length)
    (kk : SG X D A n pc' L st (ws.set q0 (a, .inr (ci, fs.set j (.int x)))) k N) : SG X D A n pc L (.int x :: .ref a :: st) ws k N := by
  obtain ⟨p, l, e, R, s, m, args, below, meth, c, Q⟩ := X
  obtain ⟨hx, hb, hml, ho, hts, hlks, hR, hK⟩ := h
  obtain ⟨hd, rfl⟩ := dd
  intro hA H locs ls hP hD hS hl
  exact va_put (Ts := lw_tbl.filter goodWord) hx hb (fun c hc => hts c (List.mem_filter.mp hc).1 (List.mem_filter.mp hc).2) (fun c hc => List.mem_filter.mpr ⟨hf.2 c hc, good_lay hc⟩) ty0 hty hnm ho hK hP hD hS q0 he hc j hj (hts _ hf.1 rfl) (fun _ q => by rw [hC] at q; exact q) hfin hd9 rfl rfl hlen hd (fun H1 locs1 hP1 hD1 hS1 => kk hA H1 locs1 ls hP1 hD1 hS1 hl)
theorem sg_get {idx ci j q0 a NN : Nat} {v : Value} {C : String} {T : u_T} {fs : List Value} (h : FxS X D tys cc n own d mc ms) (dd : Dx cc pc (.getfield idx) 3 pc') (hf : Fl own idx C T NN j) (hc : vwCl[ci]? = some (C, T, NN)) (hj : j < NN) (hC : (T j).1 = C) (he : ws[q0]? = some (a, .inr (ci, fs))) (hv : fs[j]? = some v)
    (kk : SG X D A n pc' L (v :: st) ws k N) : SG X D A n pc L (.ref a :: st) ws k N := by
  obtain ⟨p, l, e, R, s, m, args, below, meth, c, Q⟩ := X
  obtain ⟨hx, hb, hml, ho, hts, hlks, hR, hK⟩ := h
  obtain ⟨hd, rfl⟩ := dd
  intro hA H locs ls hP hD hS hl
  exact va_get (Ts := lw_tbl.filter goodWord) hx hb (fun c hc => hts c (List.mem_filter.mp hc).1 (List.mem_filter.mp hc).2) (fun c hc => List.mem_filter.mpr ⟨hf.2 c hc, good_lay hc⟩) ho hK hP q0 he hc j hj (hts _ hf.1 rfl) (fun _ q => by rw [hC] at q; exact q) hv hd (kk hA H locs ls hP hD hS hl)
theorem sg_iast {q0 t0 a i Z : Nat} {x : Int32} {cA : ClassId} {f : Nat → Int32} (h : FxS X D tys cc n own d mc ms) (dd : Dx cc pc .iastore 1 pc') (ht : tys[t0]? = some (cA, .int)) (he : ws[q0]? = some (a, .inl (cA, Z, .inl f))) (hi : i < Z) (hZ : Z < 4000)
    (kk : SG X D A n pc' L st (ws.set q0 (a, .inl (cA, Z, .inl (upd f i x)))) k N) : SG X D A n pc L (.int x :: .int (nI i) :: .ref a :: st) ws k N := by
  obtain ⟨p, l, e, R, s, m, args, below, meth, c, Q⟩ := X
  obtain ⟨hx, hb, hml, ho, hts, hlks, hR, hK⟩ := h
  obtain ⟨hd, rfl⟩ := dd
  intro hA H locs ls hP hD hS hl
  have e1 : (nI i).toNatClampNeg = i := nI_clamp (by omega)
  exact va_iast hx hb hK hP hD hS q0 t0 he ht (vp_in_nI hi (by omega)) hd (fun H1 locs1 hP1 hD1 hS1 => kk hA H1 locs1 ls (by rw [e1] at hP1; exact hP1) (by rw [e1] at hD1; exact hD1) hS1 hl)
/-- fewer words for the same cells -/
theorem sg_ws {ws' : va_W} (e : ws = ws') (kk : SG X D A n pc L st ws' k N) : SG X D A n pc L st ws k N := by subst e; exact kk
theorem sg_vret {P : va_W → Prop} (h : FxS X D tys cc n own d k N) (hQ : QxS X D tys A P k N) (dd : Dx cc pc .return_ 1 pc') (hP9 : P ws) : SG X D A n pc L [] ws k N := by
  obtain ⟨p, l, e, R, s, m, args, below, meth, c, Q⟩ := X
  obtain ⟨hx, hb, hml, ho, hts, hlk, hR, hK⟩ := h
  obtain ⟨hq, hr⟩ := hQ
  intro hA H locs ls hP hD hS hl
  simp only at hq hr ⊢
  rw [hq]
  exact W.vret hx hb hr (fun t ht hW => ⟨⟨ws, rfl, hP9, by rw [ht]; exact hP, va_K.moved hW.alike hK, hD⟩, hS.F ht⟩) hS.2.2 dd.1 hlk
theorem nc_blind {av : List Value} {sz : Nat} {ws : va_W} : FrameBlind (va_Pc av (fun U => U.heap.size = sz ∧ va_P D vwCl ws U.heap ∧ va_K D vwCl tys U ∧ va_D (fun _ => True) ws)) := fun a U g mk q => by
  obtain ⟨q0, q1, qP, qK, qD⟩ := q
  exact ⟨q0, q1, qP, va_K.moved (u := U) (U := U.calling g mk a) (Vm.Alike.refl U.vm) qK, qD⟩
theorem sub_P {ws wc : va_W} {H : Heap} (hP : va_P D vwCl ws H) (is : List Nat) (hs : is.map (fun i => ws[i]?) = wc.map some) : va_P D vwCl wc H := by
  intro k q hq
  have h1 : (is.map (fun i => ws[i]?))[k]? = some (some q) := by rw [hs, List.getElem?_map, hq]; rfl
  rw [List.getElem?_map] at h1
  cases hi : is[k]? with
  | none => rw [hi] at h1; cases h1
  | some i => rw [hi] at h1; exact hP i q (Option.some.inj h1)
/-- a constructor of ours is called -/
theorem sg_ci {q : Mq} {d' mc' ms' idx np b : Nat} {As rest : List Value} {wc wr : va_W} {P : va_W → Prop} (h : FxS X D tys cc n own d mc ms) (hM : NC X.2.1 D tys q d' mc' ms' (.ref b :: As) wc P) (hq : LmI q np) (hlk : Cond.methodLink own idx q.1 ∈ lw_tbl) (hret : q.2.2.2 = none) (hd : d' < d) (hmax : q.2.2.1 < 18) (hn : As.length = np) (hst : st = As.reverse ++ .ref b :: rest) (hrest : Nat.ble (rest.map fun v => v.category).sum 8 = true) (dd : Dx cc pc (.invokespecial idx) 3 pc')
    (isC isR : List Nat) (hC : isC.map (fun i => ws[i]?) = wc.map some) (hR9 : isR.map (fun i => ws[i]?) = wr.map some) (hn0 : va_nd isC = true) (hn1 : va_nd isR = true) (hdis : ∀ i ∈ isR, i ∉ isC) (hcl : k + mc' ≤ mc) (hsl : N + ms' ≤ ms) (kk : ∀ u, P u → SG X D A n pc' L rest (wr ++ u) (k + mc') (N + ms')) : SG X D A n pc L st ws k N := by
  subst hst
  obtain ⟨p, l, e, R, s, m, args, below, meth, c, Q⟩ := X
  obtain ⟨hx, hb, hml, ho, hts, hlks, hR, hK⟩ := h
  obtain ⟨hdd, rfl⟩ := dd
  obtain ⟨y, bb, mL, rt⟩ := q
  have hret : rt = none := hret
  subst hret
  obtain ⟨hc1, hc2, hc3, hc4, hc5, hc6, hc7⟩ := hq
  have hR' : R = rmC d mc ms := hR
  subst hR'
  intro hA H locs ls hP hD hS hl
  have hPc := sub_P hP isC hC
  have hDc := hD.sub isC hn0 hC
  have hFc := va_free (wc := wc) hD hS hA isC hC
  refine va_callv (va_runI (Ts := lw_tbl.filter goodWord) (n := np) ⟨hx, hb, hml, ho, fun c hc => hts c (List.mem_filter.mp hc).1 (List.mem_filter.mp hc).2⟩ (hM H.size)
      ⟨⟨rfl, rfl, hd, by show 8 + (mL + 11) + 36 * d' ≤ 36 * d; have : mL < 18 := hmax; omega, wsq_ok (q := (y, bb, mL, none)) hts hc1, List.mem_cons_self, hts _ hc1 rfl, hts _ hc4 rfl, ⟨hc5, hc6⟩, sq_len hc7, hts _ hlk rfl⟩, hc3, hts _ hc2 rfl⟩
      ⟨nc_blind, fun U hU hWU => ⟨rfl, by rw [hU], by rw [hU]; exact hPc, va_K.moved hWU.alike hK, hDc.weaken (fun _ _ _ _ => trivial)⟩⟩ rfl hn hl.1 rfl (lv_room (Nat.le_of_ble_eq_true hrest)) hdd ⟨hcl, hsl⟩) hS (fun q _ h => hFc q h) hFc (fun u t H1 locs1 ht hvm hw hB hz1 hk1 hS1 => ?_)
  obtain ⟨hP1, hK1, hD1⟩ := hB
  rw [ht] at hP1
  obtain ⟨hP2, hD2⟩ := va_join hP hD isC isR hC hR9 hn1 hdis hk1 hFc hP1 hD1
  exact kk u hw hA H1 locs1 ls hP2 hD2 hS1 hl
/-- a method of an object that is being made -/
theorem sg_cv {q : Mq} {d' mc' ms' idx np q0 ci b NN : Nat} {C : String} {T : u_T} {fs : List Value} {As rest : List Value} {wc wr : va_W} {P : va_W → Prop} (h : FxS X D tys cc n own d mc ms) (hM : NC X.2.1 D tys q d' mc' ms' (.ref b :: As) wc P) (hq : LmV q np) (hlk : Cond.methodLink own idx q.1 ∈ lw_tbl) (hret : q.2.2.2 = none) (hd : d' < d) (hmax : q.2.2.1 < 18) (he : ws[q0]? = some (b, .inr (ci, fs))) (hc : vwCl[ci]? = some (C, T, NN)) (hcls : C = q.1.cls) (hn : As.length = np) (hst : st = As.reverse ++ .ref b :: rest) (hrest : Nat.ble (rest.map fun v => v.category).sum 8 = true) (dd : Dx cc pc (.invokevirtual idx) 3 pc')
    (isC isR : List Nat) (hC : isC.map (fun i => ws[i]?) = wc.map some) (hR9 : isR.map (fun i => ws[i]?) = wr.map some) (hn0 : va_nd isC = true) (hn1 : va_nd isR = true) (hdis : ∀ i ∈ isR, i ∉ isC) (hcl : k + mc' ≤ mc) (hsl : N + ms' ≤ ms) (kk : ∀ u, P u → SG X D A n pc' L rest (wr ++ u) (k + mc') (N + ms')) : SG X D A n pc L st ws k N := by
  subst hst
  obtain ⟨p, l, e, R, s, m, args, below, meth, c, Q⟩ := X
  obtain ⟨hx, hb, hml, ho, hts, hlks, hR, hK⟩ := h
  obtain ⟨hdd, rfl⟩ := dd
  obtain ⟨y, bb, mL, rt⟩ := q
  have hret : rt = none := hret
  subst hret
  obtain ⟨hc1, hc2, hc3, hc4, hc5, hc6, hc7⟩ := hq
  have hR' : R = rmC d mc ms := hR
  subst hR'
  intro hA H locs ls hP hD hS hl
  have hPc := sub_P hP isC hC
  have hDc := hD.sub isC hn0 hC
  have hFc := va_free (wc := wc) hD hS hA isC hC
  have hcell := va_recv hK hP hc he
  rw [hcls] at hcell
  refine va_callv (va_runV (Ts := lw_tbl.filter goodWord) (C := y.cls) (n := np) ⟨hx, hb, hml, ho, fun c hc => hts c (List.mem_filter.mp hc).1 (List.mem_filter.mp hc).2⟩ (hM H.size)
      ⟨⟨rfl, rfl, hd, by show 8 + (mL + 11) + 36 * d' ≤ 36 * d; have : mL < 18 := hmax; omega, wsq_ok (q := (y, bb, mL, none)) hts hc1, List.mem_cons_self, hts _ hc1 rfl, hts _ hc4 rfl, ⟨hc5, hc6⟩, sq_len hc7, hts _ hlk rfl⟩, hts _ hc2 rfl, hts _ hc3 rfl⟩
      ⟨nc_blind, hcell, fun U hU hWU => ⟨rfl, by rw [hU], by rw [hU]; exact hPc, va_K.moved hWU.alike hK, hDc.weaken (fun _ _ _ _ => trivial)⟩⟩ rfl hn hl.1 rfl (lv_room (Nat.le_of_ble_eq_true hrest)) hdd ⟨hcl, hsl⟩) hS (fun q _ h => hFc q h) hFc (fun u t H1 locs1 ht hvm hw hB hz1 hk1 hS1 => ?_)
  obtain ⟨hP1, hK1, hD1⟩ := hB
  rw [ht] at hP1
  obtain ⟨hP2, hD2⟩ := va_join hP hD isC isR hC hR9 hn1 hdis hk1 hFc hP1 hD1
  exact kk u hw hA H1 locs1 ls hP2 hD2 hS1 hl
theorem sg_cs {q : Mq} {d' mc' ms' idx np : Nat} {As rest : List Value} {wc wr : va_W} {P : va_W → Prop} (h : FxS X D tys cc n own d mc ms) (hM : NC X.2.1 D tys q d' mc' ms' As wc P) (hq : LmS q np) (hlk : Cond.methodLink own idx q.1 ∈ lw_tbl) (hret : q.2.2.2 = none) (hd : d' < d) (hmax : q.2.2.1 < 18) (hn : As.length = np) (hst : st = As.reverse ++ rest) (hrest : Nat.ble (rest.map fun v => v.category).sum 8 = true) (dd : Dx cc pc (.invokestatic idx) 3 pc')
    (isC isR : List Nat) (hC : isC.map (fun i => ws[i]?) = wc.map some) (hR9 : isR.map (fun i => ws[i]?) = wr.map some) (hn0 : va_nd isC = true) (hn1 : va_nd isR = true) (hdis : ∀ i ∈ isR, i ∉ isC) (hcl : k + mc' ≤ mc) (hsl : N + ms' ≤ ms) (kk : ∀ u, P u → SG X D A n pc' L rest (wr ++ u) (k + mc') (N + ms')) : SG X D A n pc L st ws k N := by
  subst hst
  obtain ⟨p, l, e, R, s, m, args, below, meth, c, Q⟩ := X
  obtain ⟨hx, hb, hml, ho, hts, hlks, hR, hK⟩ := h
  obtain ⟨hdd, rfl⟩ := dd
  obtain ⟨y, bb, mL, rt⟩ := q
  have hret : rt = none := hret
  subst hret
  obtain ⟨hc1, hc2, hc4, hc5, hc6, hc7⟩ := hq
  have hR' : R = rmC d mc ms := hR
  subst hR'
  intro hA H locs ls hP hD hS hl
  have hPc := sub_P hP isC hC
  have hDc := hD.sub isC hn0 hC
  have hFc := va_free (wc := wc) hD hS hA isC hC
  refine va_callv (va_runS (Ts := lw_tbl.filter goodWord) (n := np) ⟨hx, hb, hml, ho, fun c hc => hts c (List.mem_filter.mp hc).1 (List.mem_filter.mp hc).2⟩ (hM H.size)
      ⟨⟨rfl, rfl, hd, by show 8 + (mL + 11) + 36 * d' ≤ 36 * d; have : mL < 18 := hmax; omega, wsq_ok (q := (y, bb, mL, none)) hts hc1, List.mem_cons_self, hts _ hc1 rfl, hts _ hc4 rfl, ⟨hc5, hc6⟩, sq_len hc7, hts _ hlk rfl⟩, hts _ hc2 rfl⟩
      ⟨nc_blind, fun U hU hWU => ⟨rfl, by rw [hU], by rw [hU]; exact hPc, va_K.moved hWU.alike hK, hDc.weaken (fun _ _ _ _ => trivial)⟩⟩ rfl hn hl.1 rfl (lv_room (Nat.le_of_ble_eq_true hrest)) hdd ⟨hcl, hsl⟩) hS (fun q _ h => hFc q h) hFc (fun u t H1 locs1 ht hvm hw hB hz1 hk1 hS1 => ?_)
  obtain ⟨hP1, hK1, hD1⟩ := hB
  rw [ht] at hP1
  obtain ⟨hP2, hD2⟩ := va_join hP hD isC isR hC hR9 hn1 hdis hk1 hFc hP1 hD1
  exact kk u hw hA H1 locs1 ls hP2 hD2 hS1 hl
end SR
/-! constructors -/
theorem wd_int : Cond.arrayClass .int ∈ lw_tbl := tm1 (List.mem_of_getElem? (i := 73) (by decide +kernel))
theorem wd_byte : Cond.arrayClass .byte ∈ lw_tbl := tm1 (List.mem_of_getElem? (i := 72) (by decide +kernel))
theorem wd_over : Cond.arrayOver (.object RX5) ∈ lw_tbl := tm1 (List.mem_of_getElem? (i := 186) (by decide +kernel))
theorem wd_oi : Cond.instanceMethod ⟨"java/lang/Object", "<init>", "()V"⟩ ∈ lw_tbl := tm1 (List.mem_of_getElem? (i := 23) (by decide +kernel))
theorem wd_oc : Cond.code ⟨"java/lang/Object", "<init>", "()V"⟩ ⟨#[0xb1]⟩ 1 none ∈ lw_tbl := tm1 (List.mem_of_getElem? (i := 24) (by decide +kernel))
section SQ
variable {X : GX} {D : va_G} {tys : TYS} {A : Nat → Prop} {cc : ByteArray} {n pc pc' tgt d mc ms k N : Nat} {own : String} {L L' : List (Nat × Value)} {st : List Value} {ws : va_W}
theorem sg_alen {q0 t0 a Z : Nat} {cA : ClassId} {f : Nat → Int32} (h : FxS X D tys cc n own d mc ms) (dd : Dx cc pc .arraylength 1 pc') (ht : tys[t0]? = some (cA, .int)) (he : ws[q0]? = some (a, .inl (cA, Z, .inl f))) (kk : SG X D A n pc' L (.int (nI Z) :: st) ws k N) : SG X D A n pc L (.ref a :: st) ws k N := by
  obtain ⟨p, l, e, R, s, m, args, below, meth, c, Q⟩ := X
  obtain ⟨hx, hb, hml, ho, hts, hlks, hR, hK⟩ := h
  obtain ⟨hd, rfl⟩ := dd
  intro hA H locs ls hP hD hS hl
  exact va_alen hx hb hK hP q0 t0 (x := (Z, .inl f)) he ht rfl hd (kk hA H locs ls hP hD hS hl)
/-- the cells, in another order -/
theorem sg_perm {ws' : va_W} (is : List Nat) (hs : is.map (fun i => ws[i]?) = ws'.map some) (hn : va_nd is = true) (kk : SG X D A n pc L st ws' k N) : SG X D A n pc L st ws k N :=
  fun hA H locs ls hP hD hS hl => kk hA H locs ls (sub_P hP is hs) (hD.sub is hn hs) hS hl
theorem sg_newq {idx t0 Z : Nat} {cA : ClassId} {C : String} (h : FxS X D tys cc n own d mc ms) (dd : Dx cc pc (.anewarray idx) 3 pc') (hcl9 : Cond.classLink own idx C ∈ lw_tbl) (hao : va_AO C X.2.2.2.2.1) (ht : tys[t0]? = some (cA, .object C)) (hZ : Z < 4000) (hcl : k + 1 ≤ mc) (hsl : N + Z ≤ ms)
    (kk : ∀ q, SG X D A n pc' L (.ref q :: st) (ws ++ [(q, .inl (cA, Z, .inr (.inr (.inr (.inr fun _ => none)))))]) (k + 1) (N + Z)) : SG X D A n pc L (.int (nI Z) :: st) ws k N := by
  obtain ⟨p, l, e, R, s, m, args, below, meth, c, Q⟩ := X
  obtain ⟨hx, hb, hml, ho, hts, hlks, hR, hK⟩ := h
  obtain ⟨hd, rfl⟩ := dd
  have hR' : R = rmC d mc ms := hR
  subst hR'
  have e1 : (nI Z).toNatClampNeg = Z := nI_clamp (by omega)
  intro hA H locs ls hP hD hS hl
  obtain ⟨kA, comp, -, -, -, hcA⟩ := (hK.2 t0 _ ht).2
  refine va_newq hx hb ho (hts _ hcl9 rfl) hao hK hP hD hS hA (nI_pos (by omega)) e1 (by omega) hcl hsl hd (fun q cB H1 hK1 hP1 hD1 hS1 => ?_)
  have hcB : cB = cA := by
    obtain ⟨kB, comp2, -, -, -, h3⟩ := (hK1.2 tys.length (cB, .object C) (by simp)).2
    exact Option.some.inj (h3.symm.trans hcA)
  subst hcB
  exact kk q hA H1 locs ls hP1 hD1 hS1 hl
theorem sg_aast {q0 t0 qk ci a i v Z : Nat} {cA : ClassId} {r : vw_C} {vs : List Value} {f : Nat → Option Nat} (h : FxS X D tys cc n own d mc ms) (dd : Dx cc pc .aastore 1 pc') (he : ws[q0]? = some (a, .inl (cA, Z, .inr (.inr (.inr (.inr f)))))) (ht : tys[t0]? = some (cA, .object r.1)) (hv : ws[qk]? = some (v, .inr (ci, vs))) (hc : vwCl[ci]? = some r) (hi : i < Z) (hZ : Z < 4000)
    (kk : SG X D A n pc' L st (ws.set q0 (a, .inl (cA, Z, .inr (.inr (.inr (.inr (va_up f i (some v)))))))) k N) : SG X D A n pc L (.ref v :: .int (nI i) :: .ref a :: st) ws k N := by
  obtain ⟨p, l, e, R, s, m, args, below, meth, c, Q⟩ := X
  obtain ⟨hx, hb, hml, ho, hts, hlks, hR, hK⟩ := h
  obtain ⟨hd, rfl⟩ := dd
  intro hA H locs ls hP hD hS hl
  have e1 : (nI i).toNatClampNeg = i := nI_clamp (by omega)
  exact va_astq hx hb hK hP hD hS q0 t0 qk ci he ht hv hc (vp_in_nI hi (by omega)) hd (fun H1 locs1 hP1 hD1 hS1 => kk hA H1 locs1 ls (by rw [e1] at hP1; exact hP1) (by rw [e1] at hD1; exact hD1) hS1 hl)
end SQ
def tyL (cI cB cM : ClassId) : TYS := [(cI, .int), (cB, .byte), (cM, .object RX5)]
theorem z_upd {i : Nat} : upd (fun _ => nI 0) i (nI 0) = fun _ => nI 0 := by
  funext j
  unfold upd
  split <;> rfl
theorem nc_fill {l : Launch} {D : va_G} {cI cB cM : ClassId} (a Z : Nat) (hZ : Z < 4000) : NC l D (tyL cI cB cM) qJ7_fill_53178 0 0 0 [.ref a, .int (nI 0)] [(a, .inl (cI, Z, .inl fun _ => nI 0))] (fun u => u = [(a, .inl (cI, Z, .inl fun _ => nI 0))]) := by
  refine NC.of rfl (by decide +kernel) (Nat.le_of_ble_eq_true rfl) (fun X A hl h hQ hnm => ?_)
  subst hl
  have h : FxS X D (tyL cI cB cM) cJ7_fill_53178 4 RJ7 0 0 0 := h
  have hQ : QxS X D (tyL cI cB cM) A (fun u => u = [(a, .inl (cI, Z, .inl fun _ => nI 0))]) 0 0 := hQ
  show SG X D A 4 0 [(0, .ref a), (1, .int (nI 0))] [] [(a, .inl (cI, Z, .inl fun _ => nI 0))] 0 0
  refine sg_iconst h dJ7_fill_53178_0 (by decide) ?_
  refine sg_istore_n (L' := [(0, .ref a), (1, .int (nI 0)), (2, .int (nI 0))]) h dJ7_fill_53178_1 rfl (by decide) rfl ?_
  refine sg_aload_n h dJ7_fill_53178_2 0 rfl ?_
  refine sg_alen (q0 := 0) (t0 := 0) h dJ7_fill_53178_3 rfl rfl ?_
  refine sg_istore_n (L' := [(0, .ref a), (1, .int (nI 0)), (2, .int (nI 0)), (3, .int (nI Z))]) h dJ7_fill_53178_4 rfl (by decide) rfl ?_
  have lp : ∀ (k9 i : Nat), i ≤ Z → Z - i < k9 → SG X D A 4 5 [(0, .ref a), (1, .int (nI 0)), (2, .int (nI i)), (3, .int (nI Z))] [] [(a, .inl (cI, Z, .inl fun _ => nI 0))] 0 0 := by
    intro k9
    induction k9 with
    | zero => intro i _ h9; exact absurd h9 (Nat.not_lt_zero _)
    | succ k9 ih =>
      intro i hi h9
      refine sg_iload_n h dJ7_fill_53178_5 2 rfl ?_
      refine sg_iload_n h dJ7_fill_53178_6 3 rfl ?_
      refine sg_icmp_ge h dJ7_fill_53178_7 (fun c => ?_) (fun c => ?_)
      · exact sg_vret h hQ dJ7_fill_53178_20 rfl
      · have hlt : i < Z := Nat.not_le.mp fun q => c ((nI_leq (by omega) (by omega)).mpr q)
        refine sg_aload_n h dJ7_fill_53178_10 0 rfl ?_
        refine sg_iload_n h dJ7_fill_53178_11 2 rfl ?_
        refine sg_iload_n h dJ7_fill_53178_12 1 rfl ?_
        refine sg_iast (q0 := 0) (t0 := 0) h dJ7_fill_53178_13 rfl rfl hlt hZ ?_
        refine sg_ws (ws' := [(a, .inl (cI, Z, .inl fun _ => nI 0))]) (by rw [z_upd]; rfl) ?_
        refine sg_iinc (b := 1) (L' := [(0, .ref a), (1, .int (nI 0)), (2, .int (nI (i + 1))), (3, .int (nI Z))]) h dJ7_fill_53178_14 2 rfl rfl (by decide) (by decide) rfl ?_
        refine sg_goto h dJ7_fill_53178_17 ?_
        exact ih (i + 1) (by omega) (by omega)
  exact lp (Z + 1) 0 (Nat.zero_le _) (by omega)

set_option maxRecDepth 100000 in
set_option maxHeartbeats 4000000 in
theorem nc_X3 {l : Launch} {D : va_G} {cI cB cM : ClassId} (h0 : Nat) : NC l D (tyL cI cB cM) qX3_init 1 6 160 [.ref h0] [(h0, .inr (3, [.null, .null, .null, .null, .null, .null]))] (fun u => ∃ q1 q2 q3 q4 q5 q6 : Nat, u = [(h0, .inr (3, [.ref q1, .ref q2, .ref q3, .ref q4, .ref q5, .ref q6])), (q1, .inl (cI, 64, .inl (fun _ => nI 0))), (q2, .inl (cI, 64, .inl (fun _ => nI 0))), (q3, .inl (cI, 8, .inl (fun _ => nI 0))), (q4, .inl (cI, 8, .inl (fun _ => nI 0))), (q5, .inl (cI, 8, .inl (fun _ => nI 0))), (q6, .inl (cI, 8, .inl (fun _ => nI 0)))]) := by
  refine NC.of rfl (by decide +kernel) (Nat.le_of_ble_eq_true rfl) (fun X A hl h hQ hnm => ?_)
  subst hl
  have h : FxS X D (tyL cI cB cM) cX3_init 1 RX3 1 6 160 := h
  have hQ : QxS X D (tyL cI cB cM) A (fun u => ∃ q1 q2 q3 q4 q5 q6 : Nat, u = [(h0, .inr (3, [.ref q1, .ref q2, .ref q3, .ref q4, .ref q5, .ref q6])), (q1, .inl (cI, 64, .inl (fun _ => nI 0))), (q2, .inl (cI, 64, .inl (fun _ => nI 0))), (q3, .inl (cI, 8, .inl (fun _ => nI 0))), (q4, .inl (cI, 8, .inl (fun _ => nI 0))), (q5, .inl (cI, 8, .inl (fun _ => nI 0))), (q6, .inl (cI, 8, .inl (fun _ => nI 0)))]) 6 160 := hQ
  have hnm : X.2.2.2.2.2.2.2.2.1.name = "<init>" := hnm
  show SG X D A 1 0 [(0, .ref h0)] [] [(h0, .inr (3, [.null, .null, .null, .null, .null, .null]))] 0 0
  refine sg_aload_n h dX3_init_0 0 rfl ?_
  refine sg_objInit h dX3_init_1 mX3_3 wd_oi wd_oc (by decide) rfl ?_
  refine sg_aload_n h dX3_init_4 0 rfl ?_
  refine sg_bipush h dX3_init_5 (by decide) ?_
  refine sg_newa (ty := .int) (t0 := 0) (cA := cI) h dX3_init_7 rfl wd_int rfl rfl (Or.inl rfl) (by decide) (Nat.le_of_ble_eq_true rfl) (Nat.le_of_ble_eq_true rfl) (fun q7 => ?_)
  refine sg_ws (ws' := [(h0, .inr (3, [.null, .null, .null, .null, .null, .null])), (q7, .inl (cI, 64, .inl (fun _ => nI 0)))]) rfl ?_
  refine sg_putF (q0 := 0) h dX3_init_9 fX3_9 rfl (by decide) rfl okX3 nmX3 rfl  hnm rfl (okX3 0 (by decide)) rfl rfl rfl (Nat.le_of_ble_eq_true rfl) ?_
  refine sg_ws (ws' := [(h0, .inr (3, [.ref q7, .null, .null, .null, .null, .null])), (q7, .inl (cI, 64, .inl (fun _ => nI 0)))]) rfl ?_
  refine sg_aload_n h dX3_init_12 0 rfl ?_
  refine sg_bipush h dX3_init_13 (by decide) ?_
  refine sg_newa (ty := .int) (t0 := 0) (cA := cI) h dX3_init_15 rfl wd_int rfl rfl (Or.inl rfl) (by decide) (Nat.le_of_ble_eq_true rfl) (Nat.le_of_ble_eq_true rfl) (fun q15 => ?_)
  refine sg_ws (ws' := [(h0, .inr (3, [.ref q7, .null, .null, .null, .null, .null])), (q7, .inl (cI, 64, .inl (fun _ => nI 0))), (q15, .inl (cI, 64, .inl (fun _ => nI 0)))]) rfl ?_
  refine sg_putF (q0 := 0) h dX3_init_17 fX3_15 rfl (by decide) rfl okX3 nmX3 rfl  hnm rfl (okX3 1 (by decide)) rfl rfl rfl (Nat.le_of_ble_eq_true rfl) ?_
  refine sg_ws (ws' := [(h0, .inr (3, [.ref q7, .ref q15, .null, .null, .null, .null])), (q7, .inl (cI, 64, .inl (fun _ => nI 0))), (q15, .inl (cI, 64, .inl (fun _ => nI 0)))]) rfl ?_
  refine sg_aload_n h dX3_init_20 0 rfl ?_
  refine sg_bipush h dX3_init_21 (by decide) ?_
  refine sg_newa (ty := .int) (t0 := 0) (cA := cI) h dX3_init_23 rfl wd_int rfl rfl (Or.inl rfl) (by decide) (Nat.le_of_ble_eq_true rfl) (Nat.le_of_ble_eq_true rfl) (fun q23 => ?_)
  refine sg_ws (ws' := [(h0, .inr (3, [.ref q7, .ref q15, .null, .null, .null, .null])), (q7, .inl (cI, 64, .inl (fun _ => nI 0))), (q15, .inl (cI, 64, .inl (fun _ => nI 0))), (q23, .inl (cI, 8, .inl (fun _ => nI 0)))]) rfl ?_
  refine sg_putF (q0 := 0) h dX3_init_25 fX3_18 rfl (by decide) rfl okX3 nmX3 rfl  hnm rfl (okX3 2 (by decide)) rfl rfl rfl (Nat.le_of_ble_eq_true rfl) ?_
  refine sg_ws (ws' := [(h0, .inr (3, [.ref q7, .ref q15, .ref q23, .null, .null, .null])), (q7, .inl (cI, 64, .inl (fun _ => nI 0))), (q15, .inl (cI, 64, .inl (fun _ => nI 0))), (q23, .inl (cI, 8, .inl (fun _ => nI 0)))]) rfl ?_
  refine sg_aload_n h dX3_init_28 0 rfl ?_
  refine sg_bipush h dX3_init_29 (by decide) ?_
  refine sg_newa (ty := .int) (t0 := 0) (cA := cI) h dX3_init_31 rfl wd_int rfl rfl (Or.inl rfl) (by decide) (Nat.le_of_ble_eq_true rfl) (Nat.le_of_ble_eq_true rfl) (fun q31 => ?_)
  refine sg_ws (ws' := [(h0, .inr (3, [.ref q7, .ref q15, .ref q23, .null, .null, .null])), (q7, .inl (cI, 64, .inl (fun _ => nI 0))), (q15, .inl (cI, 64, .inl (fun _ => nI 0))), (q23, .inl (cI, 8, .inl (fun _ => nI 0))), (q31, .inl (cI, 8, .inl (fun _ => nI 0)))]) rfl ?_
  refine sg_putF (q0 := 0) h dX3_init_33 fX3_21 rfl (by decide) rfl okX3 nmX3 rfl  hnm rfl (okX3 3 (by decide)) rfl rfl rfl (Nat.le_of_ble_eq_true rfl) ?_
  refine sg_ws (ws' := [(h0, .inr (3, [.ref q7, .ref q15, .ref q23, .ref q31, .null, .null])), (q7, .inl (cI, 64, .inl (fun _ => nI 0))), (q15, .inl (cI, 64, .inl (fun _ => nI 0))), (q23, .inl (cI, 8, .inl (fun _ => nI 0))), (q31, .inl (cI, 8, .inl (fun _ => nI 0)))]) rfl ?_
  refine sg_aload_n h dX3_init_36 0 rfl ?_
  refine sg_bipush h dX3_init_37 (by decide) ?_
  refine sg_newa (ty := .int) (t0 := 0) (cA := cI) h dX3_init_39 rfl wd_int rfl rfl (Or.inl rfl) (by decide) (Nat.le_of_ble_eq_true rfl) (Nat.le_of_ble_eq_true rfl) (fun q39 => ?_)
  refine sg_ws (ws' := [(h0, .inr (3, [.ref q7, .ref q15, .ref q23, .ref q31, .null, .null])), (q7, .inl (cI, 64, .inl (fun _ => nI 0))), (q15, .inl (cI, 64, .inl (fun _ => nI 0))), (q23, .inl (cI, 8, .inl (fun _ => nI 0))), (q31, .inl (cI, 8, .inl (fun _ => nI 0))), (q39, .inl (cI, 8, .inl (fun _ => nI 0)))]) rfl ?_
  refine sg_putF (q0 := 0) h dX3_init_41 fX3_24 rfl (by decide) rfl okX3 nmX3 rfl  hnm rfl (okX3 4 (by decide)) rfl rfl rfl (Nat.le_of_ble_eq_true rfl) ?_
  refine sg_ws (ws' := [(h0, .inr (3, [.ref q7, .ref q15, .ref q23, .ref q31, .ref q39, .null])), (q7, .inl (cI, 64, .inl (fun _ => nI 0))), (q15, .inl (cI, 64, .inl (fun _ => nI 0))), (q23, .inl (cI, 8, .inl (fun _ => nI 0))), (q31, .inl (cI, 8, .inl (fun _ => nI 0))), (q39, .inl (cI, 8, .inl (fun _ => nI 0)))]) rfl ?_
  refine sg_aload_n h dX3_init_44 0 rfl ?_
  refine sg_bipush h dX3_init_45 (by decide) ?_
  refine sg_newa (ty := .int) (t0 := 0) (cA := cI) h dX3_init_47 rfl wd_int rfl rfl (Or.inl rfl) (by decide) (Nat.le_of_ble_eq_true rfl) (Nat.le_of_ble_eq_true rfl) (fun q47 => ?_)
  refine sg_ws (ws' := [(h0, .inr (3, [.ref q7, .ref q15, .ref q23, .ref q31, .ref q39, .null])), (q7, .inl (cI, 64, .inl (fun _ => nI 0))), (q15, .inl (cI, 64, .inl (fun _ => nI 0))), (q23, .inl (cI, 8, .inl (fun _ => nI 0))), (q31, .inl (cI, 8, .inl (fun _ => nI 0))), (q39, .inl (cI, 8, .inl (fun _ => nI 0))), (q47, .inl (cI, 8, .inl (fun _ => nI 0)))]) rfl ?_
  refine sg_putF (q0 := 0) h dX3_init_49 fX3_27 rfl (by decide) rfl okX3 nmX3 rfl  hnm rfl (okX3 5 (by decide)) rfl rfl rfl (Nat.le_of_ble_eq_true rfl) ?_
  refine sg_ws (ws' := [(h0, .inr (3, [.ref q7, .ref q15, .ref q23, .ref q31, .ref q39, .ref q47])), (q7, .inl (cI, 64, .inl (fun _ => nI 0))), (q15, .inl (cI, 64, .inl (fun _ => nI 0))), (q23, .inl (cI, 8, .inl (fun _ => nI 0))), (q31, .inl (cI, 8, .inl (fun _ => nI 0))), (q39, .inl (cI, 8, .inl (fun _ => nI 0))), (q47, .inl (cI, 8, .inl (fun _ => nI 0)))]) rfl ?_
  refine sg_perm (ws' := [(h0, .inr (3, [.ref q7, .ref q15, .ref q23, .ref q31, .ref q39, .ref q47])), (q7, .inl (cI, 64, .inl (fun _ => nI 0))), (q15, .inl (cI, 64, .inl (fun _ => nI 0))), (q23, .inl (cI, 8, .inl (fun _ => nI 0))), (q31, .inl (cI, 8, .inl (fun _ => nI 0))), (q39, .inl (cI, 8, .inl (fun _ => nI 0))), (q47, .inl (cI, 8, .inl (fun _ => nI 0)))]) [0, 1, 2, 3, 4, 5, 6] rfl rfl ?_
  exact sg_vret h hQ dX3_init_52 ⟨q7, q15, q23, q31, q39, q47, rfl⟩

set_option maxRecDepth 100000 in
set_option maxHeartbeats 4000000 in
theorem nc_X6 {l : Launch} {D : va_G} {cI cB cM : ClassId} (h0 : Nat) : NC l D (tyL cI cB cM) qX6_init 1 6 272 [.ref h0] [(h0, .inr (6, [.null, .null, .null, .null, .null, .null, .int (nI 0), .int (nI 0), .int (nI 0)]))] (fun u => ∃ q1 q2 q3 q4 q5 q6 : Nat, u = [(h0, .inr (6, [.ref q1, .ref q2, .ref q3, .ref q4, .ref q5, .ref q6, .int (nI 0), .int (nI 0), .int (nI 0)])), (q1, .inl (cI, 64, .inl (fun _ => nI 0))), (q2, .inl (cI, 64, .inl (fun _ => nI 0))), (q3, .inl (cI, 64, .inl (fun _ => nI 0))), (q4, .inl (cI, 8, .inl (fun _ => nI 0))), (q5, .inl (cI, 8, .inl (fun _ => nI 0))), (q6, .inl (cI, 64, .inl (fun _ => nI 0)))]) := by
  refine NC.of rfl (by decide +kernel) (Nat.le_of_ble_eq_true rfl) (fun X A hl h hQ hnm => ?_)
  subst hl
  have h : FxS X D (tyL cI cB cM) cX6_init 1 RX6 1 6 272 := h
  have hQ : QxS X D (tyL cI cB cM) A (fun u => ∃ q1 q2 q3 q4 q5 q6 : Nat, u = [(h0, .inr (6, [.ref q1, .ref q2, .ref q3, .ref q4, .ref q5, .ref q6, .int (nI 0), .int (nI 0), .int (nI 0)])), (q1, .inl (cI, 64, .inl (fun _ => nI 0))), (q2, .inl (cI, 64, .inl (fun _ => nI 0))), (q3, .inl (cI, 64, .inl (fun _ => nI 0))), (q4, .inl (cI, 8, .inl (fun _ => nI 0))), (q5, .inl (cI, 8, .inl (fun _ => nI 0))), (q6, .inl (cI, 64, .inl (fun _ => nI 0)))]) 6 272 := hQ
  have hnm : X.2.2.2.2.2.2.2.2.1.name = "<init>" := hnm
  show SG X D A 1 0 [(0, .ref h0)] [] [(h0, .inr (6, [.null, .null, .null, .null, .null, .null, .int (nI 0), .int (nI 0), .int (nI 0)]))] 0 0
  refine sg_aload_n h dX6_init_0 0 rfl ?_
  refine sg_objInit h dX6_init_1 mX6_3 wd_oi wd_oc (by decide) rfl ?_
  refine sg_aload_n h dX6_init_4 0 rfl ?_
  refine sg_bipush h dX6_init_5 (by decide) ?_
  refine sg_newa (ty := .int) (t0 := 0) (cA := cI) h dX6_init_7 rfl wd_int rfl rfl (Or.inl rfl) (by decide) (Nat.le_of_ble_eq_true rfl) (Nat.le_of_ble_eq_true rfl) (fun q7 => ?_)
  refine sg_ws (ws' := [(h0, .inr (6, [.null, .null, .null, .null, .null, .null, .int (nI 0), .int (nI 0), .int (nI 0)])), (q7, .inl (cI, 64, .inl (fun _ => nI 0)))]) rfl ?_
  refine sg_putF (q0 := 0) h dX6_init_9 fX6_9 rfl (by decide) rfl okX6 nmX6 rfl  hnm rfl (okX6 0 (by decide)) rfl rfl rfl (Nat.le_of_ble_eq_true rfl) ?_
  refine sg_ws (ws' := [(h0, .inr (6, [.ref q7, .null, .null, .null, .null, .null, .int (nI 0), .int (nI 0), .int (nI 0)])), (q7, .inl (cI, 64, .inl (fun _ => nI 0)))]) rfl ?_
  refine sg_aload_n h dX6_init_12 0 rfl ?_
  refine sg_bipush h dX6_init_13 (by decide) ?_
  refine sg_newa (ty := .int) (t0 := 0) (cA := cI) h dX6_init_15 rfl wd_int rfl rfl (Or.inl rfl) (by decide) (Nat.le_of_ble_eq_true rfl) (Nat.le_of_ble_eq_true rfl) (fun q15 => ?_)
  refine sg_ws (ws' := [(h0, .inr (6, [.ref q7, .null, .null, .null, .null, .null, .int (nI 0), .int (nI 0), .int (nI 0)])), (q7, .inl (cI, 64, .inl (fun _ => nI 0))), (q15, .inl (cI, 64, .inl (fun _ => nI 0)))]) rfl ?_
  refine sg_putF (q0 := 0) h dX6_init_17 fX6_15 rfl (by decide) rfl okX6 nmX6 rfl  hnm rfl (okX6 1 (by decide)) rfl rfl rfl (Nat.le_of_ble_eq_true rfl) ?_
  refine sg_ws (ws' := [(h0, .inr (6, [.ref q7, .ref q15, .null, .null, .null, .null, .int (nI 0), .int (nI 0), .int (nI 0)])), (q7, .inl (cI, 64, .inl (fun _ => nI 0))), (q15, .inl (cI, 64, .inl (fun _ => nI 0)))]) rfl ?_
  refine sg_aload_n h dX6_init_20 0 rfl ?_
  refine sg_bipush h dX6_init_21 (by decide) ?_
  refine sg_newa (ty := .int) (t0 := 0) (cA := cI) h dX6_init_23 rfl wd_int rfl rfl (Or.inl rfl) (by decide) (Nat.le_of_ble_eq_true rfl) (Nat.le_of_ble_eq_true rfl) (fun q23 => ?_)
  refine sg_ws (ws' := [(h0, .inr (6, [.ref q7, .ref q15, .null, .null, .null, .null, .int (nI 0), .int (nI 0), .int (nI 0)])), (q7, .inl (cI, 64, .inl (fun _ => nI 0))), (q15, .inl (cI, 64, .inl (fun _ => nI 0))), (q23, .inl (cI, 64, .inl (fun _ => nI 0)))]) rfl ?_
  refine sg_putF (q0 := 0) h dX6_init_25 fX6_18 rfl (by decide) rfl okX6 nmX6 rfl  hnm rfl (okX6 2 (by decide)) rfl rfl rfl (Nat.le_of_ble_eq_true rfl) ?_
  refine sg_ws (ws' := [(h0, .inr (6, [.ref q7, .ref q15, .ref q23, .null, .null, .null, .int (nI 0), .int (nI 0), .int (nI 0)])), (q7, .inl (cI, 64, .inl (fun _ => nI 0))), (q15, .inl (cI, 64, .inl (fun _ => nI 0))), (q23, .inl (cI, 64, .inl (fun _ => nI 0)))]) rfl ?_
  refine sg_aload_n h dX6_init_28 0 rfl ?_
  refine sg_bipush h dX6_init_29 (by decide) ?_
  refine sg_newa (ty := .int) (t0 := 0) (cA := cI) h dX6_init_31 rfl wd_int rfl rfl (Or.inl rfl) (by decide) (Nat.le_of_ble_eq_true rfl) (Nat.le_of_ble_eq_true rfl) (fun q31 => ?_)
  refine sg_ws (ws' := [(h0, .inr (6, [.ref q7, .ref q15, .ref q23, .null, .null, .null, .int (nI 0), .int (nI 0), .int (nI 0)])), (q7, .inl (cI, 64, .inl (fun _ => nI 0))), (q15, .inl (cI, 64, .inl (fun _ => nI 0))), (q23, .inl (cI, 64, .inl (fun _ => nI 0))), (q31, .inl (cI, 8, .inl (fun _ => nI 0)))]) rfl ?_
  refine sg_putF (q0 := 0) h dX6_init_33 fX6_21 rfl (by decide) rfl okX6 nmX6 rfl  hnm rfl (okX6 3 (by decide)) rfl rfl rfl (Nat.le_of_ble_eq_true rfl) ?_
  refine sg_ws (ws' := [(h0, .inr (6, [.ref q7, .ref q15, .ref q23, .ref q31, .null, .null, .int (nI 0), .int (nI 0), .int (nI 0)])), (q7, .inl (cI, 64, .inl (fun _ => nI 0))), (q15, .inl (cI, 64, .inl (fun _ => nI 0))), (q23, .inl (cI, 64, .inl (fun _ => nI 0))), (q31, .inl (cI, 8, .inl (fun _ => nI 0)))]) rfl ?_
  refine sg_aload_n h dX6_init_36 0 rfl ?_
  refine sg_bipush h dX6_init_37 (by decide) ?_
  refine sg_newa (ty := .int) (t0 := 0) (cA := cI) h dX6_init_39 rfl wd_int rfl rfl (Or.inl rfl) (by decide) (Nat.le_of_ble_eq_true rfl) (Nat.le_of_ble_eq_true rfl) (fun q39 => ?_)
  refine sg_ws (ws' := [(h0, .inr (6, [.ref q7, .ref q15, .ref q23, .ref q31, .null, .null, .int (nI 0), .int (nI 0), .int (nI 0)])), (q7, .inl (cI, 64, .inl (fun _ => nI 0))), (q15, .inl (cI, 64, .inl (fun _ => nI 0))), (q23, .inl (cI, 64, .inl (fun _ => nI 0))), (q31, .inl (cI, 8, .inl (fun _ => nI 0))), (q39, .inl (cI, 8, .inl (fun _ => nI 0)))]) rfl ?_
  refine sg_putF (q0 := 0) h dX6_init_41 fX6_24 rfl (by decide) rfl okX6 nmX6 rfl  hnm rfl (okX6 4 (by decide)) rfl rfl rfl (Nat.le_of_ble_eq_true rfl) ?_
  refine sg_ws (ws' := [(h0, .inr (6, [.ref q7, .ref q15, .ref q23, .ref q31, .ref q39, .null, .int (nI 0), .int (nI 0), .int (nI 0)])), (q7, .inl (cI, 64, .inl (fun _ => nI 0))), (q15, .inl (cI, 64, .inl (fun _ => nI 0))), (q23, .inl (cI, 64, .inl (fun _ => nI 0))), (q31, .inl (cI, 8, .inl (fun _ => nI 0))), (q39, .inl (cI, 8, .inl (fun _ => nI 0)))]) rfl ?_
  refine sg_aload_n h dX6_init_44 0 rfl ?_
  refine sg_bipush h dX6_init_45 (by decide) ?_
  refine sg_newa (ty := .int) (t0 := 0) (cA := cI) h dX6_init_47 rfl wd_int rfl rfl (Or.inl rfl) (by decide) (Nat.le_of_ble_eq_true rfl) (Nat.le_of_ble_eq_true rfl) (fun q47 => ?_)
  refine sg_ws (ws' := [(h0, .inr (6, [.ref q7, .ref q15, .ref q23, .ref q31, .ref q39, .null, .int (nI 0), .int (nI 0), .int (nI 0)])), (q7, .inl (cI, 64, .inl (fun _ => nI 0))), (q15, .inl (cI, 64, .inl (fun _ => nI 0))), (q23, .inl (cI, 64, .inl (fun _ => nI 0))), (q31, .inl (cI, 8, .inl (fun _ => nI 0))), (q39, .inl (cI, 8, .inl (fun _ => nI 0))), (q47, .inl (cI, 64, .inl (fun _ => nI 0)))]) rfl ?_
  refine sg_putF (q0 := 0) h dX6_init_49 fX6_27 rfl (by decide) rfl okX6 nmX6 rfl  hnm rfl (okX6 5 (by decide)) rfl rfl rfl (Nat.le_of_ble_eq_true rfl) ?_
  refine sg_ws (ws' := [(h0, .inr (6, [.ref q7, .ref q15, .ref q23, .ref q31, .ref q39, .ref q47, .int (nI 0), .int (nI 0), .int (nI 0)])), (q7, .inl (cI, 64, .inl (fun _ => nI 0))), (q15, .inl (cI, 64, .inl (fun _ => nI 0))), (q23, .inl (cI, 64, .inl (fun _ => nI 0))), (q31, .inl (cI, 8, .inl (fun _ => nI 0))), (q39, .inl (cI, 8, .inl (fun _ => nI 0))), (q47, .inl (cI, 64, .inl (fun _ => nI 0)))]) rfl ?_
  refine sg_perm (ws' := [(h0, .inr (6, [.ref q7, .ref q15, .ref q23, .ref q31, .ref q39, .ref q47, .int (nI 0), .int (nI 0), .int (nI 0)])), (q7, .inl (cI, 64, .inl (fun _ => nI 0))), (q15, .inl (cI, 64, .inl (fun _ => nI 0))), (q23, .inl (cI, 64, .inl (fun _ => nI 0))), (q31, .inl (cI, 8, .inl (fun _ => nI 0))), (q39, .inl (cI, 8, .inl (fun _ => nI 0))), (q47, .inl (cI, 64, .inl (fun _ => nI 0)))]) [0, 1, 2, 3, 4, 5, 6] rfl rfl ?_
  exact sg_vret h hQ dX6_init_52 ⟨q7, q15, q23, q31, q39, q47, rfl⟩

set_option maxRecDepth 100000 in
set_option maxHeartbeats 4000000 in
theorem nc_X7 {l : Launch} {D : va_G} {cI cB cM : ClassId} (h0 : Nat) : NC l D (tyL cI cB cM) qX7_init 1 2 403 [.ref h0] [(h0, .inr (7, [.int (nI 0), .int (nI 0), .null, .int (nI 0), .int (nI 0), .int (nI 0), .int (nI 0), .null, .int (nI 0)]))] (fun u => ∃ q1 q2 : Nat, u = [(h0, .inr (7, [.int (nI 0), .int (nI 0), .ref q1, .int (nI 0), .int (nI 0), .int (nI 0), .int (nI 0), .ref q2, .int (nI 0)])), (q1, .inl (cB, 400, .inl (fun _ => nI 0))), (q2, .inl (cI, 3, .inl (fun _ => nI 0)))]) := by
  refine NC.of rfl (by decide +kernel) (Nat.le_of_ble_eq_true rfl) (fun X A hl h hQ hnm => ?_)
  subst hl
  have h : FxS X D (tyL cI cB cM) cX7_init 1 RX7 1 2 403 := h
  have hQ : QxS X D (tyL cI cB cM) A (fun u => ∃ q1 q2 : Nat, u = [(h0, .inr (7, [.int (nI 0), .int (nI 0), .ref q1, .int (nI 0), .int (nI 0), .int (nI 0), .int (nI 0), .ref q2, .int (nI 0)])), (q1, .inl (cB, 400, .inl (fun _ => nI 0))), (q2, .inl (cI, 3, .inl (fun _ => nI 0)))]) 2 403 := hQ
  have hnm : X.2.2.2.2.2.2.2.2.1.name = "<init>" := hnm
  show SG X D A 1 0 [(0, .ref h0)] [] [(h0, .inr (7, [.int (nI 0), .int (nI 0), .null, .int (nI 0), .int (nI 0), .int (nI 0), .int (nI 0), .null, .int (nI 0)]))] 0 0
  refine sg_aload_n h dX7_init_0 0 rfl ?_
  refine sg_objInit h dX7_init_1 mX7_3 wd_oi wd_oc (by decide) rfl ?_
  refine sg_aload_n h dX7_init_4 0 rfl ?_
  refine sg_sipush h dX7_init_5 (by decide) ?_
  refine sg_newa (ty := .byte) (t0 := 1) (cA := cB) h dX7_init_8 rfl wd_byte rfl rfl (Or.inr rfl) (by decide) (Nat.le_of_ble_eq_true rfl) (Nat.le_of_ble_eq_true rfl) (fun q8 => ?_)
  refine sg_ws (ws' := [(h0, .inr (7, [.int (nI 0), .int (nI 0), .null, .int (nI 0), .int (nI 0), .int (nI 0), .int (nI 0), .null, .int (nI 0)])), (q8, .inl (cB, 400, .inl (fun _ => nI 0)))]) rfl ?_
  refine sg_putF (q0 := 0) h dX7_init_10 fX7_9 rfl (by decide) rfl okX7 nmX7 rfl  hnm rfl (okX7 2 (by decide)) rfl rfl rfl (Nat.le_of_ble_eq_true rfl) ?_
  refine sg_ws (ws' := [(h0, .inr (7, [.int (nI 0), .int (nI 0), .ref q8, .int (nI 0), .int (nI 0), .int (nI 0), .int (nI 0), .null, .int (nI 0)])), (q8, .inl (cB, 400, .inl (fun _ => nI 0)))]) rfl ?_
  refine sg_aload_n h dX7_init_13 0 rfl ?_
  refine sg_iconst h dX7_init_14 (by decide) ?_
  refine sg_newa (ty := .int) (t0 := 0) (cA := cI) h dX7_init_15 rfl wd_int rfl rfl (Or.inl rfl) (by decide) (Nat.le_of_ble_eq_true rfl) (Nat.le_of_ble_eq_true rfl) (fun q15 => ?_)
  refine sg_ws (ws' := [(h0, .inr (7, [.int (nI 0), .int (nI 0), .ref q8, .int (nI 0), .int (nI 0), .int (nI 0), .int (nI 0), .null, .int (nI 0)])), (q8, .inl (cB, 400, .inl (fun _ => nI 0))), (q15, .inl (cI, 3, .inl (fun _ => nI 0)))]) rfl ?_
  refine sg_putF (q0 := 0) h dX7_init_17 fX7_15 rfl (by decide) rfl okX7 nmX7 rfl  hnm rfl (okX7 7 (by decide)) rfl rfl rfl (Nat.le_of_ble_eq_true rfl) ?_
  refine sg_ws (ws' := [(h0, .inr (7, [.int (nI 0), .int (nI 0), .ref q8, .int (nI 0), .int (nI 0), .int (nI 0), .int (nI 0), .ref q15, .int (nI 0)])), (q8, .inl (cB, 400, .inl (fun _ => nI 0))), (q15, .inl (cI, 3, .inl (fun _ => nI 0)))]) rfl ?_
  refine sg_perm (ws' := [(h0, .inr (7, [.int (nI 0), .int (nI 0), .ref q8, .int (nI 0), .int (nI 0), .int (nI 0), .int (nI 0), .ref q15, .int (nI 0)])), (q8, .inl (cB, 400, .inl (fun _ => nI 0))), (q15, .inl (cI, 3, .inl (fun _ => nI 0)))]) [0, 1, 2] rfl rfl ?_
  exact sg_vret h hQ dX7_init_20 ⟨q8, q15, rfl⟩

set_option maxRecDepth 100000 in
set_option maxHeartbeats 4000000 in
theorem nc_X0 {l : Launch} {D : va_G} {cI cB cM : ClassId} (h0 : Nat) : NC l D (tyL cI cB cM) qX0_init 1 1 8 [.ref h0] [(h0, .inr (0, [.null, .int (nI 0)]))] (fun u => ∃ q1 : Nat, u = [(h0, .inr (0, [.ref q1, .int (nI 0)])), (q1, .inl (cI, 8, .inl (fun _ => nI 0)))]) := by
  refine NC.of rfl (by decide +kernel) (Nat.le_of_ble_eq_true rfl) (fun X A hl h hQ hnm => ?_)
  subst hl
  have h : FxS X D (tyL cI cB cM) cX0_init 1 RX0 1 1 8 := h
  have hQ : QxS X D (tyL cI cB cM) A (fun u => ∃ q1 : Nat, u = [(h0, .inr (0, [.ref q1, .int (nI 0)])), (q1, .inl (cI, 8, .inl (fun _ => nI 0)))]) 1 8 := hQ
  have hnm : X.2.2.2.2.2.2.2.2.1.name = "<init>" := hnm
  show SG X D A 1 0 [(0, .ref h0)] [] [(h0, .inr (0, [.null, .int (nI 0)]))] 0 0
  refine sg_aload_n h dX0_init_0 0 rfl ?_
  refine sg_objInit h dX0_init_1 mX0_3 wd_oi wd_oc (by decide) rfl ?_
  refine sg_aload_n h dX0_init_4 0 rfl ?_
  refine sg_bipush h dX0_init_5 (by decide) ?_
  refine sg_newa (ty := .int) (t0 := 0) (cA := cI) h dX0_init_7 rfl wd_int rfl rfl (Or.inl rfl) (by decide) (Nat.le_of_ble_eq_true rfl) (Nat.le_of_ble_eq_true rfl) (fun q7 => ?_)
  refine sg_ws (ws' := [(h0, .inr (0, [.null, .int (nI 0)])), (q7, .inl (cI, 8, .inl (fun _ => nI 0)))]) rfl ?_
  refine sg_putF (q0 := 0) h dX0_init_9 fX0_9 rfl (by decide) rfl okX0 nmX0 rfl  hnm rfl (okX0 0 (by decide)) rfl rfl rfl (Nat.le_of_ble_eq_true rfl) ?_
  refine sg_ws (ws' := [(h0, .inr (0, [.ref q7, .int (nI 0)])), (q7, .inl (cI, 8, .inl (fun _ => nI 0)))]) rfl ?_
  refine sg_perm (ws' := [(h0, .inr (0, [.ref q7, .int (nI 0)])), (q7, .inl (cI, 8, .inl (fun _ => nI 0)))]) [0, 1] rfl rfl ?_
  exact sg_vret h hQ dX0_init_12 ⟨q7, rfl⟩

set_option maxRecDepth 100000 in
set_option maxHeartbeats 4000000 in
theorem nc_X1 {l : Launch} {D : va_G} {cI cB cM : ClassId} (h0 : Nat) : NC l D (tyL cI cB cM) qX1_init 1 1 8 [.ref h0] [(h0, .inr (1, [.int (nI 0), .int (nI 0), .null, .int (nI 0), .int (nI 0)]))] (fun u => ∃ q1 : Nat, u = [(h0, .inr (1, [.int (nI 0), .int (nI 0), .ref q1, .int (nI 0), .int (nI 0)])), (q1, .inl (cI, 8, .inl (fun _ => nI 0)))]) := by
  refine NC.of rfl (by decide +kernel) (Nat.le_of_ble_eq_true rfl) (fun X A hl h hQ hnm => ?_)
  subst hl
  have h : FxS X D (tyL cI cB cM) cX1_init 1 RX1 1 1 8 := h
  have hQ : QxS X D (tyL cI cB cM) A (fun u => ∃ q1 : Nat, u = [(h0, .inr (1, [.int (nI 0), .int (nI 0), .ref q1, .int (nI 0), .int (nI 0)])), (q1, .inl (cI, 8, .inl (fun _ => nI 0)))]) 1 8 := hQ
  have hnm : X.2.2.2.2.2.2.2.2.1.name = "<init>" := hnm
  show SG X D A 1 0 [(0, .ref h0)] [] [(h0, .inr (1, [.int (nI 0), .int (nI 0), .null, .int (nI 0), .int (nI 0)]))] 0 0
  refine sg_aload_n h dX1_init_0 0 rfl ?_
  refine sg_objInit h dX1_init_1 mX1_3 wd_oi wd_oc (by decide) rfl ?_
  refine sg_aload_n h dX1_init_4 0 rfl ?_
  refine sg_bipush h dX1_init_5 (by decide) ?_
  refine sg_newa (ty := .int) (t0 := 0) (cA := cI) h dX1_init_7 rfl wd_int rfl rfl (Or.inl rfl) (by decide) (Nat.le_of_ble_eq_true rfl) (Nat.le_of_ble_eq_true rfl) (fun q7 => ?_)
  refine sg_ws (ws' := [(h0, .inr (1, [.int (nI 0), .int (nI 0), .null, .int (nI 0), .int (nI 0)])), (q7, .inl (cI, 8, .inl (fun _ => nI 0)))]) rfl ?_
  refine sg_putF (q0 := 0) h dX1_init_9 fX1_9 rfl (by decide) rfl okX1 nmX1 rfl  hnm rfl (okX1 2 (by decide)) rfl rfl rfl (Nat.le_of_ble_eq_true rfl) ?_
  refine sg_ws (ws' := [(h0, .inr (1, [.int (nI 0), .int (nI 0), .ref q7, .int (nI 0), .int (nI 0)])), (q7, .inl (cI, 8, .inl (fun _ => nI 0)))]) rfl ?_
  refine sg_perm (ws' := [(h0, .inr (1, [.int (nI 0), .int (nI 0), .ref q7, .int (nI 0), .int (nI 0)])), (q7, .inl (cI, 8, .inl (fun _ => nI 0)))]) [0, 1] rfl rfl ?_
  exact sg_vret h hQ dX1_init_12 ⟨q7, rfl⟩

set_option maxRecDepth 100000 in
set_option maxHeartbeats 4000000 in
theorem nc_X2 {l : Launch} {D : va_G} {cI cB cM : ClassId} (h0 : Nat) : NC l D (tyL cI cB cM) qX2_init 1 1 9 [.ref h0] [(h0, .inr (2, [.null, .int (nI 0), .int (nI 0), .int (nI 0)]))] (fun u => ∃ q1 : Nat, u = [(h0, .inr (2, [.ref q1, .int (nI 0), .int (nI 0), .int (nI 0)])), (q1, .inl (cI, 9, .inl (fun _ => nI 0)))]) := by
  refine NC.of rfl (by decide +kernel) (Nat.le_of_ble_eq_true rfl) (fun X A hl h hQ hnm => ?_)
  subst hl
  have h : FxS X D (tyL cI cB cM) cX2_init 1 RX2 1 1 9 := h
  have hQ : QxS X D (tyL cI cB cM) A (fun u => ∃ q1 : Nat, u = [(h0, .inr (2, [.ref q1, .int (nI 0), .int (nI 0), .int (nI 0)])), (q1, .inl (cI, 9, .inl (fun _ => nI 0)))]) 1 9 := hQ
  have hnm : X.2.2.2.2.2.2.2.2.1.name = "<init>" := hnm
  show SG X D A 1 0 [(0, .ref h0)] [] [(h0, .inr (2, [.null, .int (nI 0), .int (nI 0), .int (nI 0)]))] 0 0
  refine sg_aload_n h dX2_init_0 0 rfl ?_
  refine sg_objInit h dX2_init_1 mX2_3 wd_oi wd_oc (by decide) rfl ?_
  refine sg_aload_n h dX2_init_4 0 rfl ?_
  refine sg_bipush h dX2_init_5 (by decide) ?_
  refine sg_newa (ty := .int) (t0 := 0) (cA := cI) h dX2_init_7 rfl wd_int rfl rfl (Or.inl rfl) (by decide) (Nat.le_of_ble_eq_true rfl) (Nat.le_of_ble_eq_true rfl) (fun q7 => ?_)
  refine sg_ws (ws' := [(h0, .inr (2, [.null, .int (nI 0), .int (nI 0), .int (nI 0)])), (q7, .inl (cI, 9, .inl (fun _ => nI 0)))]) rfl ?_
  refine sg_putF (q0 := 0) h dX2_init_9 fX2_9 rfl (by decide) rfl okX2 nmX2 rfl  hnm rfl (okX2 0 (by decide)) rfl rfl rfl (Nat.le_of_ble_eq_true rfl) ?_
  refine sg_ws (ws' := [(h0, .inr (2, [.ref q7, .int (nI 0), .int (nI 0), .int (nI 0)])), (q7, .inl (cI, 9, .inl (fun _ => nI 0)))]) rfl ?_
  refine sg_perm (ws' := [(h0, .inr (2, [.ref q7, .int (nI 0), .int (nI 0), .int (nI 0)])), (q7, .inl (cI, 9, .inl (fun _ => nI 0)))]) [0, 1] rfl rfl ?_
  exact sg_vret h hQ dX2_init_12 ⟨q7, rfl⟩

set_option maxRecDepth 100000 in
set_option maxHeartbeats 4000000 in
theorem nc_X8 {l : Launch} {D : va_G} {cI cB cM : ClassId} (h0 : Nat) : NC l D (tyL cI cB cM) qX8_init 1 2 128 [.ref h0] [(h0, .inr (8, [.null, .null]))] (fun u => ∃ q1 q2 : Nat, u = [(h0, .inr (8, [.ref q1, .ref q2])), (q1, .inl (cI, 64, .inl (fun _ => nI 0))), (q2, .inl (cI, 64, .inl (fun _ => nI 0)))]) := by
  refine NC.of rfl (by decide +kernel) (Nat.le_of_ble_eq_true rfl) (fun X A hl h hQ hnm => ?_)
  subst hl
  have h : FxS X D (tyL cI cB cM) cX8_init 1 RX8 1 2 128 := h
  have hQ : QxS X D (tyL cI cB cM) A (fun u => ∃ q1 q2 : Nat, u = [(h0, .inr (8, [.ref q1, .ref q2])), (q1, .inl (cI, 64, .inl (fun _ => nI 0))), (q2, .inl (cI, 64, .inl (fun _ => nI 0)))]) 2 128 := hQ
  have hnm : X.2.2.2.2.2.2.2.2.1.name = "<init>" := hnm
  show SG X D A 1 0 [(0, .ref h0)] [] [(h0, .inr (8, [.null, .null]))] 0 0
  refine sg_aload_n h dX8_init_0 0 rfl ?_
  refine sg_objInit h dX8_init_1 mX8_3 wd_oi wd_oc (by decide) rfl ?_
  refine sg_aload_n h dX8_init_4 0 rfl ?_
  refine sg_bipush h dX8_init_5 (by decide) ?_
  refine sg_newa (ty := .int) (t0 := 0) (cA := cI) h dX8_init_7 rfl wd_int rfl rfl (Or.inl rfl) (by decide) (Nat.le_of_ble_eq_true rfl) (Nat.le_of_ble_eq_true rfl) (fun q7 => ?_)
  refine sg_ws (ws' := [(h0, .inr (8, [.null, .null])), (q7, .inl (cI, 64, .inl (fun _ => nI 0)))]) rfl ?_
  refine sg_putF (q0 := 0) h dX8_init_9 fX8_9 rfl (by decide) rfl okX8 nmX8 rfl  hnm rfl (okX8 0 (by decide)) rfl rfl rfl (Nat.le_of_ble_eq_true rfl) ?_
  refine sg_ws (ws' := [(h0, .inr (8, [.ref q7, .null])), (q7, .inl (cI, 64, .inl (fun _ => nI 0)))]) rfl ?_
  refine sg_aload_n h dX8_init_12 0 rfl ?_
  refine sg_bipush h dX8_init_13 (by decide) ?_
  refine sg_newa (ty := .int) (t0 := 0) (cA := cI) h dX8_init_15 rfl wd_int rfl rfl (Or.inl rfl) (by decide) (Nat.le_of_ble_eq_true rfl) (Nat.le_of_ble_eq_true rfl) (fun q15 => ?_)
  refine sg_ws (ws' := [(h0, .inr (8, [.ref q7, .null])), (q7, .inl (cI, 64, .inl (fun _ => nI 0))), (q15, .inl (cI, 64, .inl (fun _ => nI 0)))]) rfl ?_
  refine sg_putF (q0 := 0) h dX8_init_17 fX8_15 rfl (by decide) rfl okX8 nmX8 rfl  hnm rfl (okX8 1 (by decide)) rfl rfl rfl (Nat.le_of_ble_eq_true rfl) ?_
  refine sg_ws (ws' := [(h0, .inr (8, [.ref q7, .ref q15])), (q7, .inl (cI, 64, .inl (fun _ => nI 0))), (q15, .inl (cI, 64, .inl (fun _ => nI 0)))]) rfl ?_
  refine sg_perm (ws' := [(h0, .inr (8, [.ref q7, .ref q15])), (q7, .inl (cI, 64, .inl (fun _ => nI 0))), (q15, .inl (cI, 64, .inl (fun _ => nI 0)))]) [0, 1, 2] rfl rfl ?_
  exact sg_vret h hQ dX8_init_20 ⟨q7, q15, rfl⟩

set_option maxRecDepth 100000 in
set_option maxHeartbeats 4000000 in
theorem nc_X10 {l : Launch} {D : va_G} {cI cB cM : ClassId} (h0 : Nat) : NC l D (tyL cI cB cM) qX10_init 1 2 72 [.ref h0] [(h0, .inr (10, [.int (nI 0), .null, .null]))] (fun u => ∃ q1 q2 : Nat, u = [(h0, .inr (10, [.int (nI 0), .ref q1, .ref q2])), (q1, .inl (cI, 8, .inl (fun _ => nI 0))), (q2, .inl (cI, 64, .inl (fun _ => nI 0)))]) := by
  refine NC.of rfl (by decide +kernel) (Nat.le_of_ble_eq_true rfl) (fun X A hl h hQ hnm => ?_)
  subst hl
  have h : FxS X D (tyL cI cB cM) cX10_init 1 RX10 1 2 72 := h
  have hQ : QxS X D (tyL cI cB cM) A (fun u => ∃ q1 q2 : Nat, u = [(h0, .inr (10, [.int (nI 0), .ref q1, .ref q2])), (q1, .inl (cI, 8, .inl (fun _ => nI 0))), (q2, .inl (cI, 64, .inl (fun _ => nI 0)))]) 2 72 := hQ
  have hnm : X.2.2.2.2.2.2.2.2.1.name = "<init>" := hnm
  show SG X D A 1 0 [(0, .ref h0)] [] [(h0, .inr (10, [.int (nI 0), .null, .null]))] 0 0
  refine sg_aload_n h dX10_init_0 0 rfl ?_
  refine sg_objInit h dX10_init_1 mX10_3 wd_oi wd_oc (by decide) rfl ?_
  refine sg_aload_n h dX10_init_4 0 rfl ?_
  refine sg_bipush h dX10_init_5 (by decide) ?_
  refine sg_newa (ty := .int) (t0 := 0) (cA := cI) h dX10_init_7 rfl wd_int rfl rfl (Or.inl rfl) (by decide) (Nat.le_of_ble_eq_true rfl) (Nat.le_of_ble_eq_true rfl) (fun q7 => ?_)
  refine sg_ws (ws' := [(h0, .inr (10, [.int (nI 0), .null, .null])), (q7, .inl (cI, 8, .inl (fun _ => nI 0)))]) rfl ?_
  refine sg_putF (q0 := 0) h dX10_init_9 fX10_9 rfl (by decide) rfl okX10 nmX10 rfl  hnm rfl (okX10 1 (by decide)) rfl rfl rfl (Nat.le_of_ble_eq_true rfl) ?_
  refine sg_ws (ws' := [(h0, .inr (10, [.int (nI 0), .ref q7, .null])), (q7, .inl (cI, 8, .inl (fun _ => nI 0)))]) rfl ?_
  refine sg_aload_n h dX10_init_12 0 rfl ?_
  refine sg_bipush h dX10_init_13 (by decide) ?_
  refine sg_newa (ty := .int) (t0 := 0) (cA := cI) h dX10_init_15 rfl wd_int rfl rfl (Or.inl rfl) (by decide) (Nat.le_of_ble_eq_true rfl) (Nat.le_of_ble_eq_true rfl) (fun q15 => ?_)
  refine sg_ws (ws' := [(h0, .inr (10, [.int (nI 0), .ref q7, .null])), (q7, .inl (cI, 8, .inl (fun _ => nI 0))), (q15, .inl (cI, 64, .inl (fun _ => nI 0)))]) rfl ?_
  refine sg_putF (q0 := 0) h dX10_init_17 fX10_15 rfl (by decide) rfl okX10 nmX10 rfl  hnm rfl (okX10 2 (by decide)) rfl rfl rfl (Nat.le_of_ble_eq_true rfl) ?_
  refine sg_ws (ws' := [(h0, .inr (10, [.int (nI 0), .ref q7, .ref q15])), (q7, .inl (cI, 8, .inl (fun _ => nI 0))), (q15, .inl (cI, 64, .inl (fun _ => nI 0)))]) rfl ?_
  refine sg_perm (ws' := [(h0, .inr (10, [.int (nI 0), .ref q7, .ref q15])), (q7, .inl (cI, 8, .inl (fun _ => nI 0))), (q15, .inl (cI, 64, .inl (fun _ => nI 0)))]) [0, 1, 2] rfl rfl ?_
  exact sg_vret h hQ dX10_init_20 ⟨q7, q15, rfl⟩

set_option maxRecDepth 100000 in
set_option maxHeartbeats 4000000 in
theorem nc_X4 {l : Launch} {D : va_G} {cI cB cM : ClassId} (h0 : Nat) : NC l D (tyL cI cB cM) qX4_init 1 0 0 [.ref h0] [(h0, .inr (4, [.int (nI 0), .int (nI 0), .int (nI 0)]))] (fun u => u = [(h0, .inr (4, [.int (nI 0), .int (nI 0), .int (nI 0)]))]) := by
  refine NC.of rfl (by decide +kernel) (Nat.le_of_ble_eq_true rfl) (fun X A hl h hQ hnm => ?_)
  subst hl
  have h : FxS X D (tyL cI cB cM) cX4_init 1 RX4 1 0 0 := h
  have hQ : QxS X D (tyL cI cB cM) A (fun u => u = [(h0, .inr (4, [.int (nI 0), .int (nI 0), .int (nI 0)]))]) 0 0 := hQ
  have hnm : X.2.2.2.2.2.2.2.2.1.name = "<init>" := hnm
  show SG X D A 1 0 [(0, .ref h0)] [] [(h0, .inr (4, [.int (nI 0), .int (nI 0), .int (nI 0)]))] 0 0
  refine sg_aload_n h dX4_init_0 0 rfl ?_
  refine sg_objInit h dX4_init_1 mX4_1 wd_oi wd_oc (by decide) rfl ?_
  refine sg_aload_n h dX4_init_4 0 rfl ?_
  refine sg_iconst h dX4_init_5 (by decide) ?_
  refine sg_puti (q0 := 0) h dX4_init_6 fX4_7 rfl (by decide) rfl okX4 nmX4 rfl  (by decide +kernel) rfl (Nat.le_of_ble_eq_true rfl) ?_
  refine sg_ws (ws' := [(h0, .inr (4, [.int (nI 0), .int (nI 0), .int (nI 0)]))]) rfl ?_
  exact sg_vret h hQ dX4_init_9 rfl

set_option maxRecDepth 100000 in
set_option maxHeartbeats 4000000 in
theorem nc_X9 {l : Launch} {D : va_G} {cI cB cM : ClassId} (h0 g1 g2 : Nat) : NC l D (tyL cI cB cM) qX9_init 1 3 24 [.ref h0, .ref g1, .ref g2] [(h0, .inr (9, [.null, .null, .null, .null, .null]))] (fun u => ∃ q1 q2 q3 : Nat, u = [(h0, .inr (9, [.ref g1, .ref g2, .ref q1, .ref q2, .ref q3])), (q1, .inl (cI, 8, .inl (fun _ => nI 0))), (q2, .inl (cI, 8, .inl (fun _ => nI 0))), (q3, .inl (cI, 8, .inl (fun _ => nI 0)))]) := by
  refine NC.of rfl (by decide +kernel) (Nat.le_of_ble_eq_true rfl) (fun X A hl h hQ hnm => ?_)
  subst hl
  have h : FxS X D (tyL cI cB cM) cX9_init 3 RX9 1 3 24 := h
  have hQ : QxS X D (tyL cI cB cM) A (fun u => ∃ q1 q2 q3 : Nat, u = [(h0, .inr (9, [.ref g1, .ref g2, .ref q1, .ref q2, .ref q3])), (q1, .inl (cI, 8, .inl (fun _ => nI 0))), (q2, .inl (cI, 8, .inl (fun _ => nI 0))), (q3, .inl (cI, 8, .inl (fun _ => nI 0)))]) 3 24 := hQ
  have hnm : X.2.2.2.2.2.2.2.2.1.name = "<init>" := hnm
  show SG X D A 3 0 [(0, .ref h0), (1, .ref g1), (2, .ref g2)] [] [(h0, .inr (9, [.null, .null, .null, .null, .null]))] 0 0
  refine sg_aload_n h dX9_init_0 0 rfl ?_
  refine sg_objInit h dX9_init_1 mX9_3 wd_oi wd_oc (by decide) rfl ?_
  refine sg_aload_n h dX9_init_4 0 rfl ?_
  refine sg_aload_n h dX9_init_5 1 rfl ?_
  refine sg_putF (q0 := 0) h dX9_init_6 fX9_9 rfl (by decide) rfl okX9 nmX9 rfl  hnm rfl (okX9 0 (by decide)) rfl rfl rfl (Nat.le_of_ble_eq_true rfl) ?_
  refine sg_ws (ws' := [(h0, .inr (9, [.ref g1, .null, .null, .null, .null]))]) rfl ?_
  refine sg_aload_n h dX9_init_9 0 rfl ?_
  refine sg_aload_n h dX9_init_10 2 rfl ?_
  refine sg_putF (q0 := 0) h dX9_init_11 fX9_15 rfl (by decide) rfl okX9 nmX9 rfl  hnm rfl (okX9 1 (by decide)) rfl rfl rfl (Nat.le_of_ble_eq_true rfl) ?_
  refine sg_ws (ws' := [(h0, .inr (9, [.ref g1, .ref g2, .null, .null, .null]))]) rfl ?_
  refine sg_aload_n h dX9_init_14 0 rfl ?_
  refine sg_bipush h dX9_init_15 (by decide) ?_
  refine sg_newa (ty := .int) (t0 := 0) (cA := cI) h dX9_init_17 rfl wd_int rfl rfl (Or.inl rfl) (by decide) (Nat.le_of_ble_eq_true rfl) (Nat.le_of_ble_eq_true rfl) (fun q17 => ?_)
  refine sg_ws (ws' := [(h0, .inr (9, [.ref g1, .ref g2, .null, .null, .null])), (q17, .inl (cI, 8, .inl (fun _ => nI 0)))]) rfl ?_
  refine sg_putF (q0 := 0) h dX9_init_19 fX9_19 rfl (by decide) rfl okX9 nmX9 rfl  hnm rfl (okX9 2 (by decide)) rfl rfl rfl (Nat.le_of_ble_eq_true rfl) ?_
  refine sg_ws (ws' := [(h0, .inr (9, [.ref g1, .ref g2, .ref q17, .null, .null])), (q17, .inl (cI, 8, .inl (fun _ => nI 0)))]) rfl ?_
  refine sg_aload_n h dX9_init_22 0 rfl ?_
  refine sg_bipush h dX9_init_23 (by decide) ?_
  refine sg_newa (ty := .int) (t0 := 0) (cA := cI) h dX9_init_25 rfl wd_int rfl rfl (Or.inl rfl) (by decide) (Nat.le_of_ble_eq_true rfl) (Nat.le_of_ble_eq_true rfl) (fun q25 => ?_)
  refine sg_ws (ws' := [(h0, .inr (9, [.ref g1, .ref g2, .ref q17, .null, .null])), (q17, .inl (cI, 8, .inl (fun _ => nI 0))), (q25, .inl (cI, 8, .inl (fun _ => nI 0)))]) rfl ?_
  refine sg_putF (q0 := 0) h dX9_init_27 fX9_23 rfl (by decide) rfl okX9 nmX9 rfl  hnm rfl (okX9 3 (by decide)) rfl rfl rfl (Nat.le_of_ble_eq_true rfl) ?_
  refine sg_ws (ws' := [(h0, .inr (9, [.ref g1, .ref g2, .ref q17, .ref q25, .null])), (q17, .inl (cI, 8, .inl (fun _ => nI 0))), (q25, .inl (cI, 8, .inl (fun _ => nI 0)))]) rfl ?_
  refine sg_aload_n h dX9_init_30 0 rfl ?_
  refine sg_bipush h dX9_init_31 (by decide) ?_
  refine sg_newa (ty := .int) (t0 := 0) (cA := cI) h dX9_init_33 rfl wd_int rfl rfl (Or.inl rfl) (by decide) (Nat.le_of_ble_eq_true rfl) (Nat.le_of_ble_eq_true rfl) (fun q33 => ?_)
  refine sg_ws (ws' := [(h0, .inr (9, [.ref g1, .ref g2, .ref q17, .ref q25, .null])), (q17, .inl (cI, 8, .inl (fun _ => nI 0))), (q25, .inl (cI, 8, .inl (fun _ => nI 0))), (q33, .inl (cI, 8, .inl (fun _ => nI 0)))]) rfl ?_
  refine sg_putF (q0 := 0) h dX9_init_35 fX9_26 rfl (by decide) rfl okX9 nmX9 rfl  hnm rfl (okX9 4 (by decide)) rfl rfl rfl (Nat.le_of_ble_eq_true rfl) ?_
  refine sg_ws (ws' := [(h0, .inr (9, [.ref g1, .ref g2, .ref q17, .ref q25, .ref q33])), (q17, .inl (cI, 8, .inl (fun _ => nI 0))), (q25, .inl (cI, 8, .inl (fun _ => nI 0))), (q33, .inl (cI, 8, .inl (fun _ => nI 0)))]) rfl ?_
  refine sg_perm (ws' := [(h0, .inr (9, [.ref g1, .ref g2, .ref q17, .ref q25, .ref q33])), (q17, .inl (cI, 8, .inl (fun _ => nI 0))), (q25, .inl (cI, 8, .inl (fun _ => nI 0))), (q33, .inl (cI, 8, .inl (fun _ => nI 0)))]) [0, 1, 2, 3] rfl rfl ?_
  exact sg_vret h hQ dX9_init_38 ⟨q17, q25, q33, rfl⟩

set_option maxRecDepth 100000 in
set_option maxHeartbeats 4000000 in
theorem nc_X3_clear {l : Launch} {D : va_G} {cI cB cM : ClassId} (h0 q1 q2 q3 q4 q5 q6 : Nat) : NC l D (tyL cI cB cM) qX3_clear 1 0 0 [.ref h0] [(h0, .inr (3, [.ref q1, .ref q2, .ref q3, .ref q4, .ref q5, .ref q6])), (q1, .inl (cI, 64, .inl (fun _ => nI 0))), (q2, .inl (cI, 64, .inl (fun _ => nI 0))), (q3, .inl (cI, 8, .inl (fun _ => nI 0))), (q4, .inl (cI, 8, .inl (fun _ => nI 0))), (q5, .inl (cI, 8, .inl (fun _ => nI 0))), (q6, .inl (cI, 8, .inl (fun _ => nI 0)))] (fun u => u = [(h0, .inr (3, [.ref q1, .ref q2, .ref q3, .ref q4, .ref q5, .ref q6])), (q1, .inl (cI, 64, .inl (fun _ => nI 0))), (q2, .inl (cI, 64, .inl (fun _ => nI 0))), (q3, .inl (cI, 8, .inl (fun _ => nI 0))), (q4, .inl (cI, 8, .inl (fun _ => nI 0))), (q5, .inl (cI, 8, .inl (fun _ => nI 0))), (q6, .inl (cI, 8, .inl (fun _ => nI 0)))]) := by
  refine NC.of rfl (by decide +kernel) (Nat.le_of_ble_eq_true rfl) (fun X A hl h hQ hnm => ?_)
  subst hl
  have h : FxS X D (tyL cI cB cM) cX3_clear 1 RX3 1 0 0 := h
  have hQ : QxS X D (tyL cI cB cM) A (fun u => u = [(h0, .inr (3, [.ref q1, .ref q2, .ref q3, .ref q4, .ref q5, .ref q6])), (q1, .inl (cI, 64, .inl (fun _ => nI 0))), (q2, .inl (cI, 64, .inl (fun _ => nI 0))), (q3, .inl (cI, 8, .inl (fun _ => nI 0))), (q4, .inl (cI, 8, .inl (fun _ => nI 0))), (q5, .inl (cI, 8, .inl (fun _ => nI 0))), (q6, .inl (cI, 8, .inl (fun _ => nI 0)))]) 0 0 := hQ
  have hnm : X.2.2.2.2.2.2.2.2.1.name = "clear" := hnm
  show SG X D A 1 0 [(0, .ref h0)] [] [(h0, .inr (3, [.ref q1, .ref q2, .ref q3, .ref q4, .ref q5, .ref q6])), (q1, .inl (cI, 64, .inl (fun _ => nI 0))), (q2, .inl (cI, 64, .inl (fun _ => nI 0))), (q3, .inl (cI, 8, .inl (fun _ => nI 0))), (q4, .inl (cI, 8, .inl (fun _ => nI 0))), (q5, .inl (cI, 8, .inl (fun _ => nI 0))), (q6, .inl (cI, 8, .inl (fun _ => nI 0)))] 0 0
  refine sg_aload_n h dX3_clear_0 0 rfl ?_
  refine sg_get (q0 := 0) (v := .ref q1) h dX3_clear_1 fX3_9 rfl (by decide) rfl rfl rfl ?_
  refine sg_iconst h dX3_clear_4 (by decide) ?_
  refine sg_cs (rest := []) (wc := [(q1, .inl (cI, 64, .inl (fun _ => nI 0)))]) (wr := [(h0, .inr (3, [.ref q1, .ref q2, .ref q3, .ref q4, .ref q5, .ref q6])), (q2, .inl (cI, 64, .inl (fun _ => nI 0))), (q3, .inl (cI, 8, .inl (fun _ => nI 0))), (q4, .inl (cI, 8, .inl (fun _ => nI 0))), (q5, .inl (cI, 8, .inl (fun _ => nI 0))), (q6, .inl (cI, 8, .inl (fun _ => nI 0)))]) h (nc_fill q1 64 (by decide)) lJ7_fill_53178 mX3_30 rfl (by decide) (by decide) rfl rfl rfl dX3_clear_5 [1] [0, 2, 3, 4, 5, 6] rfl rfl rfl rfl (by decide) (Nat.le_of_ble_eq_true rfl) (Nat.le_of_ble_eq_true rfl) (fun u hu => ?_)
  subst hu
  refine sg_ws (ws' := [(h0, .inr (3, [.ref q1, .ref q2, .ref q3, .ref q4, .ref q5, .ref q6])), (q2, .inl (cI, 64, .inl (fun _ => nI 0))), (q3, .inl (cI, 8, .inl (fun _ => nI 0))), (q4, .inl (cI, 8, .inl (fun _ => nI 0))), (q5, .inl (cI, 8, .inl (fun _ => nI 0))), (q6, .inl (cI, 8, .inl (fun _ => nI 0))), (q1, .inl (cI, 64, .inl (fun _ => nI 0)))]) rfl ?_
  refine sg_aload_n h dX3_clear_8 0 rfl ?_
  refine sg_get (q0 := 0) (v := .ref q2) h dX3_clear_9 fX3_15 rfl (by decide) rfl rfl rfl ?_
  refine sg_iconst h dX3_clear_12 (by decide) ?_
  refine sg_cs (rest := []) (wc := [(q2, .inl (cI, 64, .inl (fun _ => nI 0)))]) (wr := [(h0, .inr (3, [.ref q1, .ref q2, .ref q3, .ref q4, .ref q5, .ref q6])), (q3, .inl (cI, 8, .inl (fun _ => nI 0))), (q4, .inl (cI, 8, .inl (fun _ => nI 0))), (q5, .inl (cI, 8, .inl (fun _ => nI 0))), (q6, .inl (cI, 8, .inl (fun _ => nI 0))), (q1, .inl (cI, 64, .inl (fun _ => nI 0)))]) h (nc_fill q2 64 (by decide)) lJ7_fill_53178 mX3_30 rfl (by decide) (by decide) rfl rfl rfl dX3_clear_13 [1] [0, 2, 3, 4, 5, 6] rfl rfl rfl rfl (by decide) (Nat.le_of_ble_eq_true rfl) (Nat.le_of_ble_eq_true rfl) (fun u hu => ?_)
  subst hu
  refine sg_ws (ws' := [(h0, .inr (3, [.ref q1, .ref q2, .ref q3, .ref q4, .ref q5, .ref q6])), (q3, .inl (cI, 8, .inl (fun _ => nI 0))), (q4, .inl (cI, 8, .inl (fun _ => nI 0))), (q5, .inl (cI, 8, .inl (fun _ => nI 0))), (q6, .inl (cI, 8, .inl (fun _ => nI 0))), (q1, .inl (cI, 64, .inl (fun _ => nI 0))), (q2, .inl (cI, 64, .inl (fun _ => nI 0)))]) rfl ?_
  refine sg_aload_n h dX3_clear_16 0 rfl ?_
  refine sg_get (q0 := 0) (v := .ref q3) h dX3_clear_17 fX3_18 rfl (by decide) rfl rfl rfl ?_
  refine sg_iconst h dX3_clear_20 (by decide) ?_
  refine sg_cs (rest := []) (wc := [(q3, .inl (cI, 8, .inl (fun _ => nI 0)))]) (wr := [(h0, .inr (3, [.ref q1, .ref q2, .ref q3, .ref q4, .ref q5, .ref q6])), (q4, .inl (cI, 8, .inl (fun _ => nI 0))), (q5, .inl (cI, 8, .inl (fun _ => nI 0))), (q6, .inl (cI, 8, .inl (fun _ => nI 0))), (q1, .inl (cI, 64, .inl (fun _ => nI 0))), (q2, .inl (cI, 64, .inl (fun _ => nI 0)))]) h (nc_fill q3 8 (by decide)) lJ7_fill_53178 mX3_30 rfl (by decide) (by decide) rfl rfl rfl dX3_clear_21 [1] [0, 2, 3, 4, 5, 6] rfl rfl rfl rfl (by decide) (Nat.le_of_ble_eq_true rfl) (Nat.le_of_ble_eq_true rfl) (fun u hu => ?_)
  subst hu
  refine sg_ws (ws' := [(h0, .inr (3, [.ref q1, .ref q2, .ref q3, .ref q4, .ref q5, .ref q6])), (q4, .inl (cI, 8, .inl (fun _ => nI 0))), (q5, .inl (cI, 8, .inl (fun _ => nI 0))), (q6, .inl (cI, 8, .inl (fun _ => nI 0))), (q1, .inl (cI, 64, .inl (fun _ => nI 0))), (q2, .inl (cI, 64, .inl (fun _ => nI 0))), (q3, .inl (cI, 8, .inl (fun _ => nI 0)))]) rfl ?_
  refine sg_aload_n h dX3_clear_24 0 rfl ?_
  refine sg_get (q0 := 0) (v := .ref q4) h dX3_clear_25 fX3_21 rfl (by decide) rfl rfl rfl ?_
  refine sg_iconst h dX3_clear_28 (by decide) ?_
  refine sg_cs (rest := []) (wc := [(q4, .inl (cI, 8, .inl (fun _ => nI 0)))]) (wr := [(h0, .inr (3, [.ref q1, .ref q2, .ref q3, .ref q4, .ref q5, .ref q6])), (q5, .inl (cI, 8, .inl (fun _ => nI 0))), (q6, .inl (cI, 8, .inl (fun _ => nI 0))), (q1, .inl (cI, 64, .inl (fun _ => nI 0))), (q2, .inl (cI, 64, .inl (fun _ => nI 0))), (q3, .inl (cI, 8, .inl (fun _ => nI 0)))]) h (nc_fill q4 8 (by decide)) lJ7_fill_53178 mX3_30 rfl (by decide) (by decide) rfl rfl rfl dX3_clear_29 [1] [0, 2, 3, 4, 5, 6] rfl rfl rfl rfl (by decide) (Nat.le_of_ble_eq_true rfl) (Nat.le_of_ble_eq_true rfl) (fun u hu => ?_)
  subst hu
  refine sg_ws (ws' := [(h0, .inr (3, [.ref q1, .ref q2, .ref q3, .ref q4, .ref q5, .ref q6])), (q5, .inl (cI, 8, .inl (fun _ => nI 0))), (q6, .inl (cI, 8, .inl (fun _ => nI 0))), (q1, .inl (cI, 64, .inl (fun _ => nI 0))), (q2, .inl (cI, 64, .inl (fun _ => nI 0))), (q3, .inl (cI, 8, .inl (fun _ => nI 0))), (q4, .inl (cI, 8, .inl (fun _ => nI 0)))]) rfl ?_
  refine sg_aload_n h dX3_clear_32 0 rfl ?_
  refine sg_get (q0 := 0) (v := .ref q5) h dX3_clear_33 fX3_24 rfl (by decide) rfl rfl rfl ?_
  refine sg_iconst h dX3_clear_36 (by decide) ?_
  refine sg_cs (rest := []) (wc := [(q5, .inl (cI, 8, .inl (fun _ => nI 0)))]) (wr := [(h0, .inr (3, [.ref q1, .ref q2, .ref q3, .ref q4, .ref q5, .ref q6])), (q6, .inl (cI, 8, .inl (fun _ => nI 0))), (q1, .inl (cI, 64, .inl (fun _ => nI 0))), (q2, .inl (cI, 64, .inl (fun _ => nI 0))), (q3, .inl (cI, 8, .inl (fun _ => nI 0))), (q4, .inl (cI, 8, .inl (fun _ => nI 0)))]) h (nc_fill q5 8 (by decide)) lJ7_fill_53178 mX3_30 rfl (by decide) (by decide) rfl rfl rfl dX3_clear_37 [1] [0, 2, 3, 4, 5, 6] rfl rfl rfl rfl (by decide) (Nat.le_of_ble_eq_true rfl) (Nat.le_of_ble_eq_true rfl) (fun u hu => ?_)
  subst hu
  refine sg_ws (ws' := [(h0, .inr (3, [.ref q1, .ref q2, .ref q3, .ref q4, .ref q5, .ref q6])), (q6, .inl (cI, 8, .inl (fun _ => nI 0))), (q1, .inl (cI, 64, .inl (fun _ => nI 0))), (q2, .inl (cI, 64, .inl (fun _ => nI 0))), (q3, .inl (cI, 8, .inl (fun _ => nI 0))), (q4, .inl (cI, 8, .inl (fun _ => nI 0))), (q5, .inl (cI, 8, .inl (fun _ => nI 0)))]) rfl ?_
  refine sg_aload_n h dX3_clear_40 0 rfl ?_
  refine sg_get (q0 := 0) (v := .ref q6) h dX3_clear_41 fX3_27 rfl (by decide) rfl rfl rfl ?_
  refine sg_iconst h dX3_clear_44 (by decide) ?_
  refine sg_cs (rest := []) (wc := [(q6, .inl (cI, 8, .inl (fun _ => nI 0)))]) (wr := [(h0, .inr (3, [.ref q1, .ref q2, .ref q3, .ref q4, .ref q5, .ref q6])), (q1, .inl (cI, 64, .inl (fun _ => nI 0))), (q2, .inl (cI, 64, .inl (fun _ => nI 0))), (q3, .inl (cI, 8, .inl (fun _ => nI 0))), (q4, .inl (cI, 8, .inl (fun _ => nI 0))), (q5, .inl (cI, 8, .inl (fun _ => nI 0)))]) h (nc_fill q6 8 (by decide)) lJ7_fill_53178 mX3_30 rfl (by decide) (by decide) rfl rfl rfl dX3_clear_45 [1] [0, 2, 3, 4, 5, 6] rfl rfl rfl rfl (by decide) (Nat.le_of_ble_eq_true rfl) (Nat.le_of_ble_eq_true rfl) (fun u hu => ?_)
  subst hu
  refine sg_ws (ws' := [(h0, .inr (3, [.ref q1, .ref q2, .ref q3, .ref q4, .ref q5, .ref q6])), (q1, .inl (cI, 64, .inl (fun _ => nI 0))), (q2, .inl (cI, 64, .inl (fun _ => nI 0))), (q3, .inl (cI, 8, .inl (fun _ => nI 0))), (q4, .inl (cI, 8, .inl (fun _ => nI 0))), (q5, .inl (cI, 8, .inl (fun _ => nI 0))), (q6, .inl (cI, 8, .inl (fun _ => nI 0)))]) rfl ?_
  exact sg_vret h hQ dX3_clear_48 rfl

set_option maxRecDepth 100000 in
set_option maxHeartbeats 4000000 in
theorem nc_X6_clear {l : Launch} {D : va_G} {cI cB cM : ClassId} (h0 q1 q2 q3 q4 q5 q6 : Nat) : NC l D (tyL cI cB cM) qX6_clear 1 0 0 [.ref h0] [(h0, .inr (6, [.ref q1, .ref q2, .ref q3, .ref q4, .ref q5, .ref q6, .int (nI 0), .int (nI 0), .int (nI 0)])), (q1, .inl (cI, 64, .inl (fun _ => nI 0))), (q2, .inl (cI, 64, .inl (fun _ => nI 0))), (q3, .inl (cI, 64, .inl (fun _ => nI 0))), (q4, .inl (cI, 8, .inl (fun _ => nI 0))), (q5, .inl (cI, 8, .inl (fun _ => nI 0))), (q6, .inl (cI, 64, .inl (fun _ => nI 0)))] (fun u => u = [(h0, .inr (6, [.ref q1, .ref q2, .ref q3, .ref q4, .ref q5, .ref q6, .int (nI 0), .int (nI 0), .int (nI 0)])), (q1, .inl (cI, 64, .inl (fun _ => nI 0))), (q2, .inl (cI, 64, .inl (fun _ => nI 0))), (q3, .inl (cI, 64, .inl (fun _ => nI 0))), (q4, .inl (cI, 8, .inl (fun _ => nI 0))), (q5, .inl (cI, 8, .inl (fun _ => nI 0))), (q6, .inl (cI, 64, .inl (fun _ => nI 0)))]) := by
  refine NC.of rfl (by decide +kernel) (Nat.le_of_ble_eq_true rfl) (fun X A hl h hQ hnm => ?_)
  subst hl
  have h : FxS X D (tyL cI cB cM) cX6_clear 1 RX6 1 0 0 := h
  have hQ : QxS X D (tyL cI cB cM) A (fun u => u = [(h0, .inr (6, [.ref q1, .ref q2, .ref q3, .ref q4, .ref q5, .ref q6, .int (nI 0), .int (nI 0), .int (nI 0)])), (q1, .inl (cI, 64, .inl (fun _ => nI 0))), (q2, .inl (cI, 64, .inl (fun _ => nI 0))), (q3, .inl (cI, 64, .inl (fun _ => nI 0))), (q4, .inl (cI, 8, .inl (fun _ => nI 0))), (q5, .inl (cI, 8, .inl (fun _ => nI 0))), (q6, .inl (cI, 64, .inl (fun _ => nI 0)))]) 0 0 := hQ
  have hnm : X.2.2.2.2.2.2.2.2.1.name = "clear" := hnm
  show SG X D A 1 0 [(0, .ref h0)] [] [(h0, .inr (6, [.ref q1, .ref q2, .ref q3, .ref q4, .ref q5, .ref q6, .int (nI 0), .int (nI 0), .int (nI 0)])), (q1, .inl (cI, 64, .inl (fun _ => nI 0))), (q2, .inl (cI, 64, .inl (fun _ => nI 0))), (q3, .inl (cI, 64, .inl (fun _ => nI 0))), (q4, .inl (cI, 8, .inl (fun _ => nI 0))), (q5, .inl (cI, 8, .inl (fun _ => nI 0))), (q6, .inl (cI, 64, .inl (fun _ => nI 0)))] 0 0
  refine sg_aload_n h dX6_clear_0 0 rfl ?_
  refine sg_get (q0 := 0) (v := .ref q1) h dX6_clear_1 fX6_9 rfl (by decide) rfl rfl rfl ?_
  refine sg_iconst h dX6_clear_4 (by decide) ?_
  refine sg_cs (rest := []) (wc := [(q1, .inl (cI, 64, .inl (fun _ => nI 0)))]) (wr := [(h0, .inr (6, [.ref q1, .ref q2, .ref q3, .ref q4, .ref q5, .ref q6, .int (nI 0), .int (nI 0), .int (nI 0)])), (q2, .inl (cI, 64, .inl (fun _ => nI 0))), (q3, .inl (cI, 64, .inl (fun _ => nI 0))), (q4, .inl (cI, 8, .inl (fun _ => nI 0))), (q5, .inl (cI, 8, .inl (fun _ => nI 0))), (q6, .inl (cI, 64, .inl (fun _ => nI 0)))]) h (nc_fill q1 64 (by decide)) lJ7_fill_53178 mX6_30 rfl (by decide) (by decide) rfl rfl rfl dX6_clear_5 [1] [0, 2, 3, 4, 5, 6] rfl rfl rfl rfl (by decide) (Nat.le_of_ble_eq_true rfl) (Nat.le_of_ble_eq_true rfl) (fun u hu => ?_)
  subst hu
  refine sg_ws (ws' := [(h0, .inr (6, [.ref q1, .ref q2, .ref q3, .ref q4, .ref q5, .ref q6, .int (nI 0), .int (nI 0), .int (nI 0)])), (q2, .inl (cI, 64, .inl (fun _ => nI 0))), (q3, .inl (cI, 64, .inl (fun _ => nI 0))), (q4, .inl (cI, 8, .inl (fun _ => nI 0))), (q5, .inl (cI, 8, .inl (fun _ => nI 0))), (q6, .inl (cI, 64, .inl (fun _ => nI 0))), (q1, .inl (cI, 64, .inl (fun _ => nI 0)))]) rfl ?_
  refine sg_aload_n h dX6_clear_8 0 rfl ?_
  refine sg_get (q0 := 0) (v := .ref q2) h dX6_clear_9 fX6_15 rfl (by decide) rfl rfl rfl ?_
  refine sg_iconst h dX6_clear_12 (by decide) ?_
  refine sg_cs (rest := []) (wc := [(q2, .inl (cI, 64, .inl (fun _ => nI 0)))]) (wr := [(h0, .inr (6, [.ref q1, .ref q2, .ref q3, .ref q4, .ref q5, .ref q6, .int (nI 0), .int (nI 0), .int (nI 0)])), (q3, .inl (cI, 64, .inl (fun _ => nI 0))), (q4, .inl (cI, 8, .inl (fun _ => nI 0))), (q5, .inl (cI, 8, .inl (fun _ => nI 0))), (q6, .inl (cI, 64, .inl (fun _ => nI 0))), (q1, .inl (cI, 64, .inl (fun _ => nI 0)))]) h (nc_fill q2 64 (by decide)) lJ7_fill_53178 mX6_30 rfl (by decide) (by decide) rfl rfl rfl dX6_clear_13 [1] [0, 2, 3, 4, 5, 6] rfl rfl rfl rfl (by decide) (Nat.le_of_ble_eq_true rfl) (Nat.le_of_ble_eq_true rfl) (fun u hu => ?_)
  subst hu
  refine sg_ws (ws' := [(h0, .inr (6, [.ref q1, .ref q2, .ref q3, .ref q4, .ref q5, .ref q6, .int (nI 0), .int (nI 0), .int (nI 0)])), (q3, .inl (cI, 64, .inl (fun _ => nI 0))), (q4, .inl (cI, 8, .inl (fun _ => nI 0))), (q5, .inl (cI, 8, .inl (fun _ => nI 0))), (q6, .inl (cI, 64, .inl (fun _ => nI 0))), (q1, .inl (cI, 64, .inl (fun _ => nI 0))), (q2, .inl (cI, 64, .inl (fun _ => nI 0)))]) rfl ?_
  refine sg_aload_n h dX6_clear_16 0 rfl ?_
  refine sg_get (q0 := 0) (v := .ref q3) h dX6_clear_17 fX6_18 rfl (by decide) rfl rfl rfl ?_
  refine sg_iconst h dX6_clear_20 (by decide) ?_
  refine sg_cs (rest := []) (wc := [(q3, .inl (cI, 64, .inl (fun _ => nI 0)))]) (wr := [(h0, .inr (6, [.ref q1, .ref q2, .ref q3, .ref q4, .ref q5, .ref q6, .int (nI 0), .int (nI 0), .int (nI 0)])), (q4, .inl (cI, 8, .inl (fun _ => nI 0))), (q5, .inl (cI, 8, .inl (fun _ => nI 0))), (q6, .inl (cI, 64, .inl (fun _ => nI 0))), (q1, .inl (cI, 64, .inl (fun _ => nI 0))), (q2, .inl (cI, 64, .inl (fun _ => nI 0)))]) h (nc_fill q3 64 (by decide)) lJ7_fill_53178 mX6_30 rfl (by decide) (by decide) rfl rfl rfl dX6_clear_21 [1] [0, 2, 3, 4, 5, 6] rfl rfl rfl rfl (by decide) (Nat.le_of_ble_eq_true rfl) (Nat.le_of_ble_eq_true rfl) (fun u hu => ?_)
  subst hu
  refine sg_ws (ws' := [(h0, .inr (6, [.ref q1, .ref q2, .ref q3, .ref q4, .ref q5, .ref q6, .int (nI 0), .int (nI 0), .int (nI 0)])), (q4, .inl (cI, 8, .inl (fun _ => nI 0))), (q5, .inl (cI, 8, .inl (fun _ => nI 0))), (q6, .inl (cI, 64, .inl (fun _ => nI 0))), (q1, .inl (cI, 64, .inl (fun _ => nI 0))), (q2, .inl (cI, 64, .inl (fun _ => nI 0))), (q3, .inl (cI, 64, .inl (fun _ => nI 0)))]) rfl ?_
  refine sg_aload_n h dX6_clear_24 0 rfl ?_
  refine sg_get (q0 := 0) (v := .ref q4) h dX6_clear_25 fX6_21 rfl (by decide) rfl rfl rfl ?_
  refine sg_iconst h dX6_clear_28 (by decide) ?_
  refine sg_cs (rest := []) (wc := [(q4, .inl (cI, 8, .inl (fun _ => nI 0)))]) (wr := [(h0, .inr (6, [.ref q1, .ref q2, .ref q3, .ref q4, .ref q5, .ref q6, .int (nI 0), .int (nI 0), .int (nI 0)])), (q5, .inl (cI, 8, .inl (fun _ => nI 0))), (q6, .inl (cI, 64, .inl (fun _ => nI 0))), (q1, .inl (cI, 64, .inl (fun _ => nI 0))), (q2, .inl (cI, 64, .inl (fun _ => nI 0))), (q3, .inl (cI, 64, .inl (fun _ => nI 0)))]) h (nc_fill q4 8 (by decide)) lJ7_fill_53178 mX6_30 rfl (by decide) (by decide) rfl rfl rfl dX6_clear_29 [1] [0, 2, 3, 4, 5, 6] rfl rfl rfl rfl (by decide) (Nat.le_of_ble_eq_true rfl) (Nat.le_of_ble_eq_true rfl) (fun u hu => ?_)
  subst hu
  refine sg_ws (ws' := [(h0, .inr (6, [.ref q1, .ref q2, .ref q3, .ref q4, .ref q5, .ref q6, .int (nI 0), .int (nI 0), .int (nI 0)])), (q5, .inl (cI, 8, .inl (fun _ => nI 0))), (q6, .inl (cI, 64, .inl (fun _ => nI 0))), (q1, .inl (cI, 64, .inl (fun _ => nI 0))), (q2, .inl (cI, 64, .inl (fun _ => nI 0))), (q3, .inl (cI, 64, .inl (fun _ => nI 0))), (q4, .inl (cI, 8, .inl (fun _ => nI 0)))]) rfl ?_
  refine sg_aload_n h dX6_clear_32 0 rfl ?_
  refine sg_get (q0 := 0) (v := .ref q5) h dX6_clear_33 fX6_24 rfl (by decide) rfl rfl rfl ?_
  refine sg_iconst h dX6_clear_36 (by decide) ?_
  refine sg_cs (rest := []) (wc := [(q5, .inl (cI, 8, .inl (fun _ => nI 0)))]) (wr := [(h0, .inr (6, [.ref q1, .ref q2, .ref q3, .ref q4, .ref q5, .ref q6, .int (nI 0), .int (nI 0), .int (nI 0)])), (q6, .inl (cI, 64, .inl (fun _ => nI 0))), (q1, .inl (cI, 64, .inl (fun _ => nI 0))), (q2, .inl (cI, 64, .inl (fun _ => nI 0))), (q3, .inl (cI, 64, .inl (fun _ => nI 0))), (q4, .inl (cI, 8, .inl (fun _ => nI 0)))]) h (nc_fill q5 8 (by decide)) lJ7_fill_53178 mX6_30 rfl (by decide) (by decide) rfl rfl rfl dX6_clear_37 [1] [0, 2, 3, 4, 5, 6] rfl rfl rfl rfl (by decide) (Nat.le_of_ble_eq_true rfl) (Nat.le_of_ble_eq_true rfl) (fun u hu => ?_)
  subst hu
  refine sg_ws (ws' := [(h0, .inr (6, [.ref q1, .ref q2, .ref q3, .ref q4, .ref q5, .ref q6, .int (nI 0), .int (nI 0), .int (nI 0)])), (q6, .inl (cI, 64, .inl (fun _ => nI 0))), (q1, .inl (cI, 64, .inl (fun _ => nI 0))), (q2, .inl (cI, 64, .inl (fun _ => nI 0))), (q3, .inl (cI, 64, .inl (fun _ => nI 0))), (q4, .inl (cI, 8, .inl (fun _ => nI 0))), (q5, .inl (cI, 8, .inl (fun _ => nI 0)))]) rfl ?_
  refine sg_aload_n h dX6_clear_40 0 rfl ?_
  refine sg_get (q0 := 0) (v := .ref q6) h dX6_clear_41 fX6_27 rfl (by decide) rfl rfl rfl ?_
  refine sg_iconst h dX6_clear_44 (by decide) ?_
  refine sg_cs (rest := []) (wc := [(q6, .inl (cI, 64, .inl (fun _ => nI 0)))]) (wr := [(h0, .inr (6, [.ref q1, .ref q2, .ref q3, .ref q4, .ref q5, .ref q6, .int (nI 0), .int (nI 0), .int (nI 0)])), (q1, .inl (cI, 64, .inl (fun _ => nI 0))), (q2, .inl (cI, 64, .inl (fun _ => nI 0))), (q3, .inl (cI, 64, .inl (fun _ => nI 0))), (q4, .inl (cI, 8, .inl (fun _ => nI 0))), (q5, .inl (cI, 8, .inl (fun _ => nI 0)))]) h (nc_fill q6 64 (by decide)) lJ7_fill_53178 mX6_30 rfl (by decide) (by decide) rfl rfl rfl dX6_clear_45 [1] [0, 2, 3, 4, 5, 6] rfl rfl rfl rfl (by decide) (Nat.le_of_ble_eq_true rfl) (Nat.le_of_ble_eq_true rfl) (fun u hu => ?_)
  subst hu
  refine sg_ws (ws' := [(h0, .inr (6, [.ref q1, .ref q2, .ref q3, .ref q4, .ref q5, .ref q6, .int (nI 0), .int (nI 0), .int (nI 0)])), (q1, .inl (cI, 64, .inl (fun _ => nI 0))), (q2, .inl (cI, 64, .inl (fun _ => nI 0))), (q3, .inl (cI, 64, .inl (fun _ => nI 0))), (q4, .inl (cI, 8, .inl (fun _ => nI 0))), (q5, .inl (cI, 8, .inl (fun _ => nI 0))), (q6, .inl (cI, 64, .inl (fun _ => nI 0)))]) rfl ?_
  refine sg_aload_n h dX6_clear_48 0 rfl ?_
  refine sg_iconst h dX6_clear_49 (by decide) ?_
  refine sg_puti (q0 := 0) h dX6_clear_50 fX6_36 rfl (by decide) rfl okX6 nmX6 rfl  (by decide +kernel) rfl (Nat.le_of_ble_eq_true rfl) ?_
  refine sg_ws (ws' := [(h0, .inr (6, [.ref q1, .ref q2, .ref q3, .ref q4, .ref q5, .ref q6, .int (nI 0), .int (nI 0), .int (nI 0)])), (q1, .inl (cI, 64, .inl (fun _ => nI 0))), (q2, .inl (cI, 64, .inl (fun _ => nI 0))), (q3, .inl (cI, 64, .inl (fun _ => nI 0))), (q4, .inl (cI, 8, .inl (fun _ => nI 0))), (q5, .inl (cI, 8, .inl (fun _ => nI 0))), (q6, .inl (cI, 64, .inl (fun _ => nI 0)))]) rfl ?_
  refine sg_aload_n h dX6_clear_53 0 rfl ?_
  refine sg_iconst h dX6_clear_54 (by decide) ?_
  refine sg_puti (q0 := 0) h dX6_clear_55 fX6_40 rfl (by decide) rfl okX6 nmX6 rfl  (by decide +kernel) rfl (Nat.le_of_ble_eq_true rfl) ?_
  refine sg_ws (ws' := [(h0, .inr (6, [.ref q1, .ref q2, .ref q3, .ref q4, .ref q5, .ref q6, .int (nI 0), .int (nI 0), .int (nI 0)])), (q1, .inl (cI, 64, .inl (fun _ => nI 0))), (q2, .inl (cI, 64, .inl (fun _ => nI 0))), (q3, .inl (cI, 64, .inl (fun _ => nI 0))), (q4, .inl (cI, 8, .inl (fun _ => nI 0))), (q5, .inl (cI, 8, .inl (fun _ => nI 0))), (q6, .inl (cI, 64, .inl (fun _ => nI 0)))]) rfl ?_
  refine sg_aload_n h dX6_clear_58 0 rfl ?_
  refine sg_iconst h dX6_clear_59 (by decide) ?_
  refine sg_puti (q0 := 0) h dX6_clear_60 fX6_43 rfl (by decide) rfl okX6 nmX6 rfl  (by decide +kernel) rfl (Nat.le_of_ble_eq_true rfl) ?_
  refine sg_ws (ws' := [(h0, .inr (6, [.ref q1, .ref q2, .ref q3, .ref q4, .ref q5, .ref q6, .int (nI 0), .int (nI 0), .int (nI 0)])), (q1, .inl (cI, 64, .inl (fun _ => nI 0))), (q2, .inl (cI, 64, .inl (fun _ => nI 0))), (q3, .inl (cI, 64, .inl (fun _ => nI 0))), (q4, .inl (cI, 8, .inl (fun _ => nI 0))), (q5, .inl (cI, 8, .inl (fun _ => nI 0))), (q6, .inl (cI, 64, .inl (fun _ => nI 0)))]) rfl ?_
  exact sg_vret h hQ dX6_clear_63 rfl

set_option maxRecDepth 100000 in
set_option maxHeartbeats 4000000 in
theorem nc_X5_clear {l : Launch} {D : va_G} {cI cB cM : ClassId} (h0 a1 a2 a3 a4 b1 b2 b3 b4 b5 b6 a11 c1 c2 c3 c4 c5 c6 : Nat) : NC l D (tyL cI cB cM) qX5_clear 2 0 0 [.ref h0] [(h0, .inr (5, [.int (nI 0), .int (nI 0), .int (nI 0), .int (nI 0), .int (nI 0), .int (nI 0), .int (nI 0), .ref a1, .ref a2, .ref a3, .ref a4, .ref a11])), (a1, .inl (cI, 8, .inl (fun _ => nI 0))), (a2, .inl (cI, 8, .inl (fun _ => nI 0))), (a3, .inl (cI, 64, .inl (fun _ => nI 0))), (a4, .inr (3, [.ref b1, .ref b2, .ref b3, .ref b4, .ref b5, .ref b6])), (b1, .inl (cI, 64, .inl (fun _ => nI 0))), (b2, .inl (cI, 64, .inl (fun _ => nI 0))), (b3, .inl (cI, 8, .inl (fun _ => nI 0))), (b4, .inl (cI, 8, .inl (fun _ => nI 0))), (b5, .inl (cI, 8, .inl (fun _ => nI 0))), (b6, .inl (cI, 8, .inl (fun _ => nI 0))), (a11, .inr (6, [.ref c1, .ref c2, .ref c3, .ref c4, .ref c5, .ref c6, .int (nI 0), .int (nI 0), .int (nI 0)])), (c1, .inl (cI, 64, .inl (fun _ => nI 0))), (c2, .inl (cI, 64, .inl (fun _ => nI 0))), (c3, .inl (cI, 64, .inl (fun _ => nI 0))), (c4, .inl (cI, 8, .inl (fun _ => nI 0))), (c5, .inl (cI, 8, .inl (fun _ => nI 0))), (c6, .inl (cI, 64, .inl (fun _ => nI 0)))] (fun u => u = [(h0, .inr (5, [.int (nI 0), .int (nI 0), .int (nI 0), .int (nI 2), .int (nI 6), .int (nI 700), .int (nI 300), .ref a1, .ref a2, .ref a3, .ref a4, .ref a11])), (a1, .inl (cI, 8, .inl (fun _ => nI 0))), (a2, .inl (cI, 8, .inl (fun _ => nI 0))), (a3, .inl (cI, 64, .inl (fun _ => nI 0))), (a4, .inr (3, [.ref b1, .ref b2, .ref b3, .ref b4, .ref b5, .ref b6])), (b1, .inl (cI, 64, .inl (fun _ => nI 0))), (b2, .inl (cI, 64, .inl (fun _ => nI 0))), (b3, .inl (cI, 8, .inl (fun _ => nI 0))), (b4, .inl (cI, 8, .inl (fun _ => nI 0))), (b5, .inl (cI, 8, .inl (fun _ => nI 0))), (b6, .inl (cI, 8, .inl (fun _ => nI 0))), (a11, .inr (6, [.ref c1, .ref c2, .ref c3, .ref c4, .ref c5, .ref c6, .int (nI 0), .int (nI 0), .int (nI 0)])), (c1, .inl (cI, 64, .inl (fun _ => nI 0))), (c2, .inl (cI, 64, .inl (fun _ => nI 0))), (c3, .inl (cI, 64, .inl (fun _ => nI 0))), (c4, .inl (cI, 8, .inl (fun _ => nI 0))), (c5, .inl (cI, 8, .inl (fun _ => nI 0))), (c6, .inl (cI, 64, .inl (fun _ => nI 0)))]) := by
  refine NC.of rfl (by decide +kernel) (Nat.le_of_ble_eq_true rfl) (fun X A hl h hQ hnm => ?_)
  subst hl
  have h : FxS X D (tyL cI cB cM) cX5_clear 1 RX5 2 0 0 := h
  have hQ : QxS X D (tyL cI cB cM) A (fun u => u = [(h0, .inr (5, [.int (nI 0), .int (nI 0), .int (nI 0), .int (nI 2), .int (nI 6), .int (nI 700), .int (nI 300), .ref a1, .ref a2, .ref a3, .ref a4, .ref a11])), (a1, .inl (cI, 8, .inl (fun _ => nI 0))), (a2, .inl (cI, 8, .inl (fun _ => nI 0))), (a3, .inl (cI, 64, .inl (fun _ => nI 0))), (a4, .inr (3, [.ref b1, .ref b2, .ref b3, .ref b4, .ref b5, .ref b6])), (b1, .inl (cI, 64, .inl (fun _ => nI 0))), (b2, .inl (cI, 64, .inl (fun _ => nI 0))), (b3, .inl (cI, 8, .inl (fun _ => nI 0))), (b4, .inl (cI, 8, .inl (fun _ => nI 0))), (b5, .inl (cI, 8, .inl (fun _ => nI 0))), (b6, .inl (cI, 8, .inl (fun _ => nI 0))), (a11, .inr (6, [.ref c1, .ref c2, .ref c3, .ref c4, .ref c5, .ref c6, .int (nI 0), .int (nI 0), .int (nI 0)])), (c1, .inl (cI, 64, .inl (fun _ => nI 0))), (c2, .inl (cI, 64, .inl (fun _ => nI 0))), (c3, .inl (cI, 64, .inl (fun _ => nI 0))), (c4, .inl (cI, 8, .inl (fun _ => nI 0))), (c5, .inl (cI, 8, .inl (fun _ => nI 0))), (c6, .inl (cI, 64, .inl (fun _ => nI 0)))]) 0 0 := hQ
  have hnm : X.2.2.2.2.2.2.2.2.1.name = "clear" := hnm
  show SG X D A 1 0 [(0, .ref h0)] [] [(h0, .inr (5, [.int (nI 0), .int (nI 0), .int (nI 0), .int (nI 0), .int (nI 0), .int (nI 0), .int (nI 0), .ref a1, .ref a2, .ref a3, .ref a4, .ref a11])), (a1, .inl (cI, 8, .inl (fun _ => nI 0))), (a2, .inl (cI, 8, .inl (fun _ => nI 0))), (a3, .inl (cI, 64, .inl (fun _ => nI 0))), (a4, .inr (3, [.ref b1, .ref b2, .ref b3, .ref b4, .ref b5, .ref b6])), (b1, .inl (cI, 64, .inl (fun _ => nI 0))), (b2, .inl (cI, 64, .inl (fun _ => nI 0))), (b3, .inl (cI, 8, .inl (fun _ => nI 0))), (b4, .inl (cI, 8, .inl (fun _ => nI 0))), (b5, .inl (cI, 8, .inl (fun _ => nI 0))), (b6, .inl (cI, 8, .inl (fun _ => nI 0))), (a11, .inr (6, [.ref c1, .ref c2, .ref c3, .ref c4, .ref c5, .ref c6, .int (nI 0), .int (nI 0), .int (nI 0)])), (c1, .inl (cI, 64, .inl (fun _ => nI 0))), (c2, .inl (cI, 64, .inl (fun _ => nI 0))), (c3, .inl (cI, 64, .inl (fun _ => nI 0))), (c4, .inl (cI, 8, .inl (fun _ => nI 0))), (c5, .inl (cI, 8, .inl (fun _ => nI 0))), (c6, .inl (cI, 64, .inl (fun _ => nI 0)))] 0 0
  refine sg_aload_n h dX5_clear_0 0 rfl ?_
  refine sg_iconst h dX5_clear_1 (by decide) ?_
  refine sg_puti (q0 := 0) h dX5_clear_2 fX5_38 rfl (by decide) rfl okX5 nmX5 rfl  (by decide +kernel) rfl (Nat.le_of_ble_eq_true rfl) ?_
  refine sg_ws (ws' := [(h0, .inr (5, [.int (nI 0), .int (nI 0), .int (nI 0), .int (nI 0), .int (nI 0), .int (nI 0), .int (nI 0), .ref a1, .ref a2, .ref a3, .ref a4, .ref a11])), (a1, .inl (cI, 8, .inl (fun _ => nI 0))), (a2, .inl (cI, 8, .inl (fun _ => nI 0))), (a3, .inl (cI, 64, .inl (fun _ => nI 0))), (a4, .inr (3, [.ref b1, .ref b2, .ref b3, .ref b4, .ref b5, .ref b6])), (b1, .inl (cI, 64, .inl (fun _ => nI 0))), (b2, .inl (cI, 64, .inl (fun _ => nI 0))), (b3, .inl (cI, 8, .inl (fun _ => nI 0))), (b4, .inl (cI, 8, .inl (fun _ => nI 0))), (b5, .inl (cI, 8, .inl (fun _ => nI 0))), (b6, .inl (cI, 8, .inl (fun _ => nI 0))), (a11, .inr (6, [.ref c1, .ref c2, .ref c3, .ref c4, .ref c5, .ref c6, .int (nI 0), .int (nI 0), .int (nI 0)])), (c1, .inl (cI, 64, .inl (fun _ => nI 0))), (c2, .inl (cI, 64, .inl (fun _ => nI 0))), (c3, .inl (cI, 64, .inl (fun _ => nI 0))), (c4, .inl (cI, 8, .inl (fun _ => nI 0))), (c5, .inl (cI, 8, .inl (fun _ => nI 0))), (c6, .inl (cI, 64, .inl (fun _ => nI 0)))]) rfl ?_
  refine sg_aload_n h dX5_clear_5 0 rfl ?_
  refine sg_iconst h dX5_clear_6 (by decide) ?_
  refine sg_puti (q0 := 0) h dX5_clear_7 fX5_42 rfl (by decide) rfl okX5 nmX5 rfl  (by decide +kernel) rfl (Nat.le_of_ble_eq_true rfl) ?_
  refine sg_ws (ws' := [(h0, .inr (5, [.int (nI 0), .int (nI 0), .int (nI 0), .int (nI 0), .int (nI 0), .int (nI 0), .int (nI 0), .ref a1, .ref a2, .ref a3, .ref a4, .ref a11])), (a1, .inl (cI, 8, .inl (fun _ => nI 0))), (a2, .inl (cI, 8, .inl (fun _ => nI 0))), (a3, .inl (cI, 64, .inl (fun _ => nI 0))), (a4, .inr (3, [.ref b1, .ref b2, .ref b3, .ref b4, .ref b5, .ref b6])), (b1, .inl (cI, 64, .inl (fun _ => nI 0))), (b2, .inl (cI, 64, .inl (fun _ => nI 0))), (b3, .inl (cI, 8, .inl (fun _ => nI 0))), (b4, .inl (cI, 8, .inl (fun _ => nI 0))), (b5, .inl (cI, 8, .inl (fun _ => nI 0))), (b6, .inl (cI, 8, .inl (fun _ => nI 0))), (a11, .inr (6, [.ref c1, .ref c2, .ref c3, .ref c4, .ref c5, .ref c6, .int (nI 0), .int (nI 0), .int (nI 0)])), (c1, .inl (cI, 64, .inl (fun _ => nI 0))), (c2, .inl (cI, 64, .inl (fun _ => nI 0))), (c3, .inl (cI, 64, .inl (fun _ => nI 0))), (c4, .inl (cI, 8, .inl (fun _ => nI 0))), (c5, .inl (cI, 8, .inl (fun _ => nI 0))), (c6, .inl (cI, 64, .inl (fun _ => nI 0)))]) rfl ?_
  refine sg_aload_n h dX5_clear_10 0 rfl ?_
  refine sg_iconst h dX5_clear_11 (by decide) ?_
  refine sg_puti (q0 := 0) h dX5_clear_12 fX5_45 rfl (by decide) rfl okX5 nmX5 rfl  (by decide +kernel) rfl (Nat.le_of_ble_eq_true rfl) ?_
  refine sg_ws (ws' := [(h0, .inr (5, [.int (nI 0), .int (nI 0), .int (nI 0), .int (nI 0), .int (nI 0), .int (nI 0), .int (nI 0), .ref a1, .ref a2, .ref a3, .ref a4, .ref a11])), (a1, .inl (cI, 8, .inl (fun _ => nI 0))), (a2, .inl (cI, 8, .inl (fun _ => nI 0))), (a3, .inl (cI, 64, .inl (fun _ => nI 0))), (a4, .inr (3, [.ref b1, .ref b2, .ref b3, .ref b4, .ref b5, .ref b6])), (b1, .inl (cI, 64, .inl (fun _ => nI 0))), (b2, .inl (cI, 64, .inl (fun _ => nI 0))), (b3, .inl (cI, 8, .inl (fun _ => nI 0))), (b4, .inl (cI, 8, .inl (fun _ => nI 0))), (b5, .inl (cI, 8, .inl (fun _ => nI 0))), (b6, .inl (cI, 8, .inl (fun _ => nI 0))), (a11, .inr (6, [.ref c1, .ref c2, .ref c3, .ref c4, .ref c5, .ref c6, .int (nI 0), .int (nI 0), .int (nI 0)])), (c1, .inl (cI, 64, .inl (fun _ => nI 0))), (c2, .inl (cI, 64, .inl (fun _ => nI 0))), (c3, .inl (cI, 64, .inl (fun _ => nI 0))), (c4, .inl (cI, 8, .inl (fun _ => nI 0))), (c5, .inl (cI, 8, .inl (fun _ => nI 0))), (c6, .inl (cI, 64, .inl (fun _ => nI 0)))]) rfl ?_
  refine sg_aload_n h dX5_clear_15 0 rfl ?_
  refine sg_iconst h dX5_clear_16 (by decide) ?_
  refine sg_puti (q0 := 0) h dX5_clear_17 fX5_48 rfl (by decide) rfl okX5 nmX5 rfl  (by decide +kernel) rfl (Nat.le_of_ble_eq_true rfl) ?_
  refine sg_ws (ws' := [(h0, .inr (5, [.int (nI 0), .int (nI 0), .int (nI 0), .int (nI 2), .int (nI 0), .int (nI 0), .int (nI 0), .ref a1, .ref a2, .ref a3, .ref a4, .ref a11])), (a1, .inl (cI, 8, .inl (fun _ => nI 0))), (a2, .inl (cI, 8, .inl (fun _ => nI 0))), (a3, .inl (cI, 64, .inl (fun _ => nI 0))), (a4, .inr (3, [.ref b1, .ref b2, .ref b3, .ref b4, .ref b5, .ref b6])), (b1, .inl (cI, 64, .inl (fun _ => nI 0))), (b2, .inl (cI, 64, .inl (fun _ => nI 0))), (b3, .inl (cI, 8, .inl (fun _ => nI 0))), (b4, .inl (cI, 8, .inl (fun _ => nI 0))), (b5, .inl (cI, 8, .inl (fun _ => nI 0))), (b6, .inl (cI, 8, .inl (fun _ => nI 0))), (a11, .inr (6, [.ref c1, .ref c2, .ref c3, .ref c4, .ref c5, .ref c6, .int (nI 0), .int (nI 0), .int (nI 0)])), (c1, .inl (cI, 64, .inl (fun _ => nI 0))), (c2, .inl (cI, 64, .inl (fun _ => nI 0))), (c3, .inl (cI, 64, .inl (fun _ => nI 0))), (c4, .inl (cI, 8, .inl (fun _ => nI 0))), (c5, .inl (cI, 8, .inl (fun _ => nI 0))), (c6, .inl (cI, 64, .inl (fun _ => nI 0)))]) rfl ?_
  refine sg_aload_n h dX5_clear_20 0 rfl ?_
  refine sg_bipush h dX5_clear_21 (by decide) ?_
  refine sg_puti (q0 := 0) h dX5_clear_23 fX5_51 rfl (by decide) rfl okX5 nmX5 rfl  (by decide +kernel) rfl (Nat.le_of_ble_eq_true rfl) ?_
  refine sg_ws (ws' := [(h0, .inr (5, [.int (nI 0), .int (nI 0), .int (nI 0), .int (nI 2), .int (nI 6), .int (nI 0), .int (nI 0), .ref a1, .ref a2, .ref a3, .ref a4, .ref a11])), (a1, .inl (cI, 8, .inl (fun _ => nI 0))), (a2, .inl (cI, 8, .inl (fun _ => nI 0))), (a3, .inl (cI, 64, .inl (fun _ => nI 0))), (a4, .inr (3, [.ref b1, .ref b2, .ref b3, .ref b4, .ref b5, .ref b6])), (b1, .inl (cI, 64, .inl (fun _ => nI 0))), (b2, .inl (cI, 64, .inl (fun _ => nI 0))), (b3, .inl (cI, 8, .inl (fun _ => nI 0))), (b4, .inl (cI, 8, .inl (fun _ => nI 0))), (b5, .inl (cI, 8, .inl (fun _ => nI 0))), (b6, .inl (cI, 8, .inl (fun _ => nI 0))), (a11, .inr (6, [.ref c1, .ref c2, .ref c3, .ref c4, .ref c5, .ref c6, .int (nI 0), .int (nI 0), .int (nI 0)])), (c1, .inl (cI, 64, .inl (fun _ => nI 0))), (c2, .inl (cI, 64, .inl (fun _ => nI 0))), (c3, .inl (cI, 64, .inl (fun _ => nI 0))), (c4, .inl (cI, 8, .inl (fun _ => nI 0))), (c5, .inl (cI, 8, .inl (fun _ => nI 0))), (c6, .inl (cI, 64, .inl (fun _ => nI 0)))]) rfl ?_
  refine sg_aload_n h dX5_clear_26 0 rfl ?_
  refine sg_sipush h dX5_clear_27 (by decide) ?_
  refine sg_puti (q0 := 0) h dX5_clear_30 fX5_54 rfl (by decide) rfl okX5 nmX5 rfl  (by decide +kernel) rfl (Nat.le_of_ble_eq_true rfl) ?_
  refine sg_ws (ws' := [(h0, .inr (5, [.int (nI 0), .int (nI 0), .int (nI 0), .int (nI 2), .int (nI 6), .int (nI 700), .int (nI 0), .ref a1, .ref a2, .ref a3, .ref a4, .ref a11])), (a1, .inl (cI, 8, .inl (fun _ => nI 0))), (a2, .inl (cI, 8, .inl (fun _ => nI 0))), (a3, .inl (cI, 64, .inl (fun _ => nI 0))), (a4, .inr (3, [.ref b1, .ref b2, .ref b3, .ref b4, .ref b5, .ref b6])), (b1, .inl (cI, 64, .inl (fun _ => nI 0))), (b2, .inl (cI, 64, .inl (fun _ => nI 0))), (b3, .inl (cI, 8, .inl (fun _ => nI 0))), (b4, .inl (cI, 8, .inl (fun _ => nI 0))), (b5, .inl (cI, 8, .inl (fun _ => nI 0))), (b6, .inl (cI, 8, .inl (fun _ => nI 0))), (a11, .inr (6, [.ref c1, .ref c2, .ref c3, .ref c4, .ref c5, .ref c6, .int (nI 0), .int (nI 0), .int (nI 0)])), (c1, .inl (cI, 64, .inl (fun _ => nI 0))), (c2, .inl (cI, 64, .inl (fun _ => nI 0))), (c3, .inl (cI, 64, .inl (fun _ => nI 0))), (c4, .inl (cI, 8, .inl (fun _ => nI 0))), (c5, .inl (cI, 8, .inl (fun _ => nI 0))), (c6, .inl (cI, 64, .inl (fun _ => nI 0)))]) rfl ?_
  refine sg_aload_n h dX5_clear_33 0 rfl ?_
  refine sg_sipush h dX5_clear_34 (by decide) ?_
  refine sg_puti (q0 := 0) h dX5_clear_37 fX5_57 rfl (by decide) rfl okX5 nmX5 rfl  (by decide +kernel) rfl (Nat.le_of_ble_eq_true rfl) ?_
  refine sg_ws (ws' := [(h0, .inr (5, [.int (nI 0), .int (nI 0), .int (nI 0), .int (nI 2), .int (nI 6), .int (nI 700), .int (nI 300), .ref a1, .ref a2, .ref a3, .ref a4, .ref a11])), (a1, .inl (cI, 8, .inl (fun _ => nI 0))), (a2, .inl (cI, 8, .inl (fun _ => nI 0))), (a3, .inl (cI, 64, .inl (fun _ => nI 0))), (a4, .inr (3, [.ref b1, .ref b2, .ref b3, .ref b4, .ref b5, .ref b6])), (b1, .inl (cI, 64, .inl (fun _ => nI 0))), (b2, .inl (cI, 64, .inl (fun _ => nI 0))), (b3, .inl (cI, 8, .inl (fun _ => nI 0))), (b4, .inl (cI, 8, .inl (fun _ => nI 0))), (b5, .inl (cI, 8, .inl (fun _ => nI 0))), (b6, .inl (cI, 8, .inl (fun _ => nI 0))), (a11, .inr (6, [.ref c1, .ref c2, .ref c3, .ref c4, .ref c5, .ref c6, .int (nI 0), .int (nI 0), .int (nI 0)])), (c1, .inl (cI, 64, .inl (fun _ => nI 0))), (c2, .inl (cI, 64, .inl (fun _ => nI 0))), (c3, .inl (cI, 64, .inl (fun _ => nI 0))), (c4, .inl (cI, 8, .inl (fun _ => nI 0))), (c5, .inl (cI, 8, .inl (fun _ => nI 0))), (c6, .inl (cI, 64, .inl (fun _ => nI 0)))]) rfl ?_
  refine sg_aload_n h dX5_clear_40 0 rfl ?_
  refine sg_get (q0 := 0) (v := .ref a1) h dX5_clear_41 fX5_9 rfl (by decide) rfl rfl rfl ?_
  refine sg_iconst h dX5_clear_44 (by decide) ?_
  refine sg_cs (rest := []) (wc := [(a1, .inl (cI, 8, .inl (fun _ => nI 0)))]) (wr := [(h0, .inr (5, [.int (nI 0), .int (nI 0), .int (nI 0), .int (nI 2), .int (nI 6), .int (nI 700), .int (nI 300), .ref a1, .ref a2, .ref a3, .ref a4, .ref a11])), (a2, .inl (cI, 8, .inl (fun _ => nI 0))), (a3, .inl (cI, 64, .inl (fun _ => nI 0))), (a4, .inr (3, [.ref b1, .ref b2, .ref b3, .ref b4, .ref b5, .ref b6])), (b1, .inl (cI, 64, .inl (fun _ => nI 0))), (b2, .inl (cI, 64, .inl (fun _ => nI 0))), (b3, .inl (cI, 8, .inl (fun _ => nI 0))), (b4, .inl (cI, 8, .inl (fun _ => nI 0))), (b5, .inl (cI, 8, .inl (fun _ => nI 0))), (b6, .inl (cI, 8, .inl (fun _ => nI 0))), (a11, .inr (6, [.ref c1, .ref c2, .ref c3, .ref c4, .ref c5, .ref c6, .int (nI 0), .int (nI 0), .int (nI 0)])), (c1, .inl (cI, 64, .inl (fun _ => nI 0))), (c2, .inl (cI, 64, .inl (fun _ => nI 0))), (c3, .inl (cI, 64, .inl (fun _ => nI 0))), (c4, .inl (cI, 8, .inl (fun _ => nI 0))), (c5, .inl (cI, 8, .inl (fun _ => nI 0))), (c6, .inl (cI, 64, .inl (fun _ => nI 0)))]) h (nc_fill a1 8 (by decide)) lJ7_fill_53178 mX5_60 rfl (by decide) (by decide) rfl rfl rfl dX5_clear_45 [1] [0, 2, 3, 4, 5, 6, 7, 8, 9, 10, 11, 12, 13, 14, 15, 16, 17] rfl rfl rfl rfl (by decide) (Nat.le_of_ble_eq_true rfl) (Nat.le_of_ble_eq_true rfl) (fun u hu => ?_)
  subst hu
  refine sg_ws (ws' := [(h0, .inr (5, [.int (nI 0), .int (nI 0), .int (nI 0), .int (nI 2), .int (nI 6), .int (nI 700), .int (nI 300), .ref a1, .ref a2, .ref a3, .ref a4, .ref a11])), (a2, .inl (cI, 8, .inl (fun _ => nI 0))), (a3, .inl (cI, 64, .inl (fun _ => nI 0))), (a4, .inr (3, [.ref b1, .ref b2, .ref b3, .ref b4, .ref b5, .ref b6])), (b1, .inl (cI, 64, .inl (fun _ => nI 0))), (b2, .inl (cI, 64, .inl (fun _ => nI 0))), (b3, .inl (cI, 8, .inl (fun _ => nI 0))), (b4, .inl (cI, 8, .inl (fun _ => nI 0))), (b5, .inl (cI, 8, .inl (fun _ => nI 0))), (b6, .inl (cI, 8, .inl (fun _ => nI 0))), (a11, .inr (6, [.ref c1, .ref c2, .ref c3, .ref c4, .ref c5, .ref c6, .int (nI 0), .int (nI 0), .int (nI 0)])), (c1, .inl (cI, 64, .inl (fun _ => nI 0))), (c2, .inl (cI, 64, .inl (fun _ => nI 0))), (c3, .inl (cI, 64, .inl (fun _ => nI 0))), (c4, .inl (cI, 8, .inl (fun _ => nI 0))), (c5, .inl (cI, 8, .inl (fun _ => nI 0))), (c6, .inl (cI, 64, .inl (fun _ => nI 0))), (a1, .inl (cI, 8, .inl (fun _ => nI 0)))]) rfl ?_
  refine sg_aload_n h dX5_clear_48 0 rfl ?_
  refine sg_get (q0 := 0) (v := .ref a2) h dX5_clear_49 fX5_15 rfl (by decide) rfl rfl rfl ?_
  refine sg_iconst h dX5_clear_52 (by decide) ?_
  refine sg_cs (rest := []) (wc := [(a2, .inl (cI, 8, .inl (fun _ => nI 0)))]) (wr := [(h0, .inr (5, [.int (nI 0), .int (nI 0), .int (nI 0), .int (nI 2), .int (nI 6), .int (nI 700), .int (nI 300), .ref a1, .ref a2, .ref a3, .ref a4, .ref a11])), (a3, .inl (cI, 64, .inl (fun _ => nI 0))), (a4, .inr (3, [.ref b1, .ref b2, .ref b3, .ref b4, .ref b5, .ref b6])), (b1, .inl (cI, 64, .inl (fun _ => nI 0))), (b2, .inl (cI, 64, .inl (fun _ => nI 0))), (b3, .inl (cI, 8, .inl (fun _ => nI 0))), (b4, .inl (cI, 8, .inl (fun _ => nI 0))), (b5, .inl (cI, 8, .inl (fun _ => nI 0))), (b6, .inl (cI, 8, .inl (fun _ => nI 0))), (a11, .inr (6, [.ref c1, .ref c2, .ref c3, .ref c4, .ref c5, .ref c6, .int (nI 0), .int (nI 0), .int (nI 0)])), (c1, .inl (cI, 64, .inl (fun _ => nI 0))), (c2, .inl (cI, 64, .inl (fun _ => nI 0))), (c3, .inl (cI, 64, .inl (fun _ => nI 0))), (c4, .inl (cI, 8, .inl (fun _ => nI 0))), (c5, .inl (cI, 8, .inl (fun _ => nI 0))), (c6, .inl (cI, 64, .inl (fun _ => nI 0))), (a1, .inl (cI, 8, .inl (fun _ => nI 0)))]) h (nc_fill a2 8 (by decide)) lJ7_fill_53178 mX5_60 rfl (by decide) (by decide) rfl rfl rfl dX5_clear_53 [1] [0, 2, 3, 4, 5, 6, 7, 8, 9, 10, 11, 12, 13, 14, 15, 16, 17] rfl rfl rfl rfl (by decide) (Nat.le_of_ble_eq_true rfl) (Nat.le_of_ble_eq_true rfl) (fun u hu => ?_)
  subst hu
  refine sg_ws (ws' := [(h0, .inr (5, [.int (nI 0), .int (nI 0), .int (nI 0), .int (nI 2), .int (nI 6), .int (nI 700), .int (nI 300), .ref a1, .ref a2, .ref a3, .ref a4, .ref a11])), (a3, .inl (cI, 64, .inl (fun _ => nI 0))), (a4, .inr (3, [.ref b1, .ref b2, .ref b3, .ref b4, .ref b5, .ref b6])), (b1, .inl (cI, 64, .inl (fun _ => nI 0))), (b2, .inl (cI, 64, .inl (fun _ => nI 0))), (b3, .inl (cI, 8, .inl (fun _ => nI 0))), (b4, .inl (cI, 8, .inl (fun _ => nI 0))), (b5, .inl (cI, 8, .inl (fun _ => nI 0))), (b6, .inl (cI, 8, .inl (fun _ => nI 0))), (a11, .inr (6, [.ref c1, .ref c2, .ref c3, .ref c4, .ref c5, .ref c6, .int (nI 0), .int (nI 0), .int (nI 0)])), (c1, .inl (cI, 64, .inl (fun _ => nI 0))), (c2, .inl (cI, 64, .inl (fun _ => nI 0))), (c3, .inl (cI, 64, .inl (fun _ => nI 0))), (c4, .inl (cI, 8, .inl (fun _ => nI 0))), (c5, .inl (cI, 8, .inl (fun _ => nI 0))), (c6, .inl (cI, 64, .inl (fun _ => nI 0))), (a1, .inl (cI, 8, .inl (fun _ => nI 0))), (a2, .inl (cI, 8, .inl (fun _ => nI 0)))]) rfl ?_
  refine sg_aload_n h dX5_clear_56 0 rfl ?_
  refine sg_get (q0 := 0) (v := .ref a3) h dX5_clear_57 fX5_18 rfl (by decide) rfl rfl rfl ?_
  refine sg_iconst h dX5_clear_60 (by decide) ?_
  refine sg_cs (rest := []) (wc := [(a3, .inl (cI, 64, .inl (fun _ => nI 0)))]) (wr := [(h0, .inr (5, [.int (nI 0), .int (nI 0), .int (nI 0), .int (nI 2), .int (nI 6), .int (nI 700), .int (nI 300), .ref a1, .ref a2, .ref a3, .ref a4, .ref a11])), (a4, .inr (3, [.ref b1, .ref b2, .ref b3, .ref b4, .ref b5, .ref b6])), (b1, .inl (cI, 64, .inl (fun _ => nI 0))), (b2, .inl (cI, 64, .inl (fun _ => nI 0))), (b3, .inl (cI, 8, .inl (fun _ => nI 0))), (b4, .inl (cI, 8, .inl (fun _ => nI 0))), (b5, .inl (cI, 8, .inl (fun _ => nI 0))), (b6, .inl (cI, 8, .inl (fun _ => nI 0))), (a11, .inr (6, [.ref c1, .ref c2, .ref c3, .ref c4, .ref c5, .ref c6, .int (nI 0), .int (nI 0), .int (nI 0)])), (c1, .inl (cI, 64, .inl (fun _ => nI 0))), (c2, .inl (cI, 64, .inl (fun _ => nI 0))), (c3, .inl (cI, 64, .inl (fun _ => nI 0))), (c4, .inl (cI, 8, .inl (fun _ => nI 0))), (c5, .inl (cI, 8, .inl (fun _ => nI 0))), (c6, .inl (cI, 64, .inl (fun _ => nI 0))), (a1, .inl (cI, 8, .inl (fun _ => nI 0))), (a2, .inl (cI, 8, .inl (fun _ => nI 0)))]) h (nc_fill a3 64 (by decide)) lJ7_fill_53178 mX5_60 rfl (by decide) (by decide) rfl rfl rfl dX5_clear_61 [1] [0, 2, 3, 4, 5, 6, 7, 8, 9, 10, 11, 12, 13, 14, 15, 16, 17] rfl rfl rfl rfl (by decide) (Nat.le_of_ble_eq_true rfl) (Nat.le_of_ble_eq_true rfl) (fun u hu => ?_)
  subst hu
  refine sg_ws (ws' := [(h0, .inr (5, [.int (nI 0), .int (nI 0), .int (nI 0), .int (nI 2), .int (nI 6), .int (nI 700), .int (nI 300), .ref a1, .ref a2, .ref a3, .ref a4, .ref a11])), (a4, .inr (3, [.ref b1, .ref b2, .ref b3, .ref b4, .ref b5, .ref b6])), (b1, .inl (cI, 64, .inl (fun _ => nI 0))), (b2, .inl (cI, 64, .inl (fun _ => nI 0))), (b3, .inl (cI, 8, .inl (fun _ => nI 0))), (b4, .inl (cI, 8, .inl (fun _ => nI 0))), (b5, .inl (cI, 8, .inl (fun _ => nI 0))), (b6, .inl (cI, 8, .inl (fun _ => nI 0))), (a11, .inr (6, [.ref c1, .ref c2, .ref c3, .ref c4, .ref c5, .ref c6, .int (nI 0), .int (nI 0), .int (nI 0)])), (c1, .inl (cI, 64, .inl (fun _ => nI 0))), (c2, .inl (cI, 64, .inl (fun _ => nI 0))), (c3, .inl (cI, 64, .inl (fun _ => nI 0))), (c4, .inl (cI, 8, .inl (fun _ => nI 0))), (c5, .inl (cI, 8, .inl (fun _ => nI 0))), (c6, .inl (cI, 64, .inl (fun _ => nI 0))), (a1, .inl (cI, 8, .inl (fun _ => nI 0))), (a2, .inl (cI, 8, .inl (fun _ => nI 0))), (a3, .inl (cI, 64, .inl (fun _ => nI 0)))]) rfl ?_
  refine sg_aload_n h dX5_clear_64 0 rfl ?_
  refine sg_get (q0 := 0) (v := .ref a4) h dX5_clear_65 fX5_24 rfl (by decide) rfl rfl rfl ?_
  refine sg_cv (q0 := 1) (rest := []) (wc := [(a4, .inr (3, [.ref b1, .ref b2, .ref b3, .ref b4, .ref b5, .ref b6])), (b1, .inl (cI, 64, .inl (fun _ => nI 0))), (b2, .inl (cI, 64, .inl (fun _ => nI 0))), (b3, .inl (cI, 8, .inl (fun _ => nI 0))), (b4, .inl (cI, 8, .inl (fun _ => nI 0))), (b5, .inl (cI, 8, .inl (fun _ => nI 0))), (b6, .inl (cI, 8, .inl (fun _ => nI 0)))]) (wr := [(h0, .inr (5, [.int (nI 0), .int (nI 0), .int (nI 0), .int (nI 2), .int (nI 6), .int (nI 700), .int (nI 300), .ref a1, .ref a2, .ref a3, .ref a4, .ref a11])), (a11, .inr (6, [.ref c1, .ref c2, .ref c3, .ref c4, .ref c5, .ref c6, .int (nI 0), .int (nI 0), .int (nI 0)])), (c1, .inl (cI, 64, .inl (fun _ => nI 0))), (c2, .inl (cI, 64, .inl (fun _ => nI 0))), (c3, .inl (cI, 64, .inl (fun _ => nI 0))), (c4, .inl (cI, 8, .inl (fun _ => nI 0))), (c5, .inl (cI, 8, .inl (fun _ => nI 0))), (c6, .inl (cI, 64, .inl (fun _ => nI 0))), (a1, .inl (cI, 8, .inl (fun _ => nI 0))), (a2, .inl (cI, 8, .inl (fun _ => nI 0))), (a3, .inl (cI, 64, .inl (fun _ => nI 0)))]) h (nc_X3_clear a4 b1 b2 b3 b4 b5 b6) lX3_clear mX5_66 rfl (by decide) (by decide) rfl rfl rfl rfl rfl rfl dX5_clear_68 [1, 2, 3, 4, 5, 6, 7] [0, 8, 9, 10, 11, 12, 13, 14, 15, 16, 17] rfl rfl rfl rfl (by decide) (Nat.le_of_ble_eq_true rfl) (Nat.le_of_ble_eq_true rfl) (fun u hu => ?_)
  subst hu
  refine sg_ws (ws' := [(h0, .inr (5, [.int (nI 0), .int (nI 0), .int (nI 0), .int (nI 2), .int (nI 6), .int (nI 700), .int (nI 300), .ref a1, .ref a2, .ref a3, .ref a4, .ref a11])), (a11, .inr (6, [.ref c1, .ref c2, .ref c3, .ref c4, .ref c5, .ref c6, .int (nI 0), .int (nI 0), .int (nI 0)])), (c1, .inl (cI, 64, .inl (fun _ => nI 0))), (c2, .inl (cI, 64, .inl (fun _ => nI 0))), (c3, .inl (cI, 64, .inl (fun _ => nI 0))), (c4, .inl (cI, 8, .inl (fun _ => nI 0))), (c5, .inl (cI, 8, .inl (fun _ => nI 0))), (c6, .inl (cI, 64, .inl (fun _ => nI 0))), (a1, .inl (cI, 8, .inl (fun _ => nI 0))), (a2, .inl (cI, 8, .inl (fun _ => nI 0))), (a3, .inl (cI, 64, .inl (fun _ => nI 0))), (a4, .inr (3, [.ref b1, .ref b2, .ref b3, .ref b4, .ref b5, .ref b6])), (b1, .inl (cI, 64, .inl (fun _ => nI 0))), (b2, .inl (cI, 64, .inl (fun _ => nI 0))), (b3, .inl (cI, 8, .inl (fun _ => nI 0))), (b4, .inl (cI, 8, .inl (fun _ => nI 0))), (b5, .inl (cI, 8, .inl (fun _ => nI 0))), (b6, .inl (cI, 8, .inl (fun _ => nI 0)))]) rfl ?_
  refine sg_aload_n h dX5_clear_71 0 rfl ?_
  refine sg_get (q0 := 0) (v := .ref a11) h dX5_clear_72 fX5_31 rfl (by decide) rfl rfl rfl ?_
  refine sg_cv (q0 := 1) (rest := []) (wc := [(a11, .inr (6, [.ref c1, .ref c2, .ref c3, .ref c4, .ref c5, .ref c6, .int (nI 0), .int (nI 0), .int (nI 0)])), (c1, .inl (cI, 64, .inl (fun _ => nI 0))), (c2, .inl (cI, 64, .inl (fun _ => nI 0))), (c3, .inl (cI, 64, .inl (fun _ => nI 0))), (c4, .inl (cI, 8, .inl (fun _ => nI 0))), (c5, .inl (cI, 8, .inl (fun _ => nI 0))), (c6, .inl (cI, 64, .inl (fun _ => nI 0)))]) (wr := [(h0, .inr (5, [.int (nI 0), .int (nI 0), .int (nI 0), .int (nI 2), .int (nI 6), .int (nI 700), .int (nI 300), .ref a1, .ref a2, .ref a3, .ref a4, .ref a11])), (a1, .inl (cI, 8, .inl (fun _ => nI 0))), (a2, .inl (cI, 8, .inl (fun _ => nI 0))), (a3, .inl (cI, 64, .inl (fun _ => nI 0))), (a4, .inr (3, [.ref b1, .ref b2, .ref b3, .ref b4, .ref b5, .ref b6])), (b1, .inl (cI, 64, .inl (fun _ => nI 0))), (b2, .inl (cI, 64, .inl (fun _ => nI 0))), (b3, .inl (cI, 8, .inl (fun _ => nI 0))), (b4, .inl (cI, 8, .inl (fun _ => nI 0))), (b5, .inl (cI, 8, .inl (fun _ => nI 0))), (b6, .inl (cI, 8, .inl (fun _ => nI 0)))]) h (nc_X6_clear a11 c1 c2 c3 c4 c5 c6) lX6_clear mX5_67 rfl (by decide) (by decide) rfl rfl rfl rfl rfl rfl dX5_clear_75 [1, 2, 3, 4, 5, 6, 7] [0, 8, 9, 10, 11, 12, 13, 14, 15, 16, 17] rfl rfl rfl rfl (by decide) (Nat.le_of_ble_eq_true rfl) (Nat.le_of_ble_eq_true rfl) (fun u hu => ?_)
  subst hu
  refine sg_ws (ws' := [(h0, .inr (5, [.int (nI 0), .int (nI 0), .int (nI 0), .int (nI 2), .int (nI 6), .int (nI 700), .int (nI 300), .ref a1, .ref a2, .ref a3, .ref a4, .ref a11])), (a1, .inl (cI, 8, .inl (fun _ => nI 0))), (a2, .inl (cI, 8, .inl (fun _ => nI 0))), (a3, .inl (cI, 64, .inl (fun _ => nI 0))), (a4, .inr (3, [.ref b1, .ref b2, .ref b3, .ref b4, .ref b5, .ref b6])), (b1, .inl (cI, 64, .inl (fun _ => nI 0))), (b2, .inl (cI, 64, .inl (fun _ => nI 0))), (b3, .inl (cI, 8, .inl (fun _ => nI 0))), (b4, .inl (cI, 8, .inl (fun _ => nI 0))), (b5, .inl (cI, 8, .inl (fun _ => nI 0))), (b6, .inl (cI, 8, .inl (fun _ => nI 0))), (a11, .inr (6, [.ref c1, .ref c2, .ref c3, .ref c4, .ref c5, .ref c6, .int (nI 0), .int (nI 0), .int (nI 0)])), (c1, .inl (cI, 64, .inl (fun _ => nI 0))), (c2, .inl (cI, 64, .inl (fun _ => nI 0))), (c3, .inl (cI, 64, .inl (fun _ => nI 0))), (c4, .inl (cI, 8, .inl (fun _ => nI 0))), (c5, .inl (cI, 8, .inl (fun _ => nI 0))), (c6, .inl (cI, 64, .inl (fun _ => nI 0)))]) rfl ?_
  exact sg_vret h hQ dX5_clear_78 rfl

set_option maxRecDepth 100000 in
set_option maxHeartbeats 4000000 in
theorem nc_X5 {l : Launch} {D : va_G} {cI cB cM : ClassId} (h0 : Nat) : NC l D (tyL cI cB cM) qX5_init 3 17 527 [.ref h0] [(h0, .inr (5, [.int (nI 0), .int (nI 0), .int (nI 0), .int (nI 0), .int (nI 0), .int (nI 0), .int (nI 0), .null, .null, .null, .null, .null]))] (fun u => ∃ a1 a2 a3 a4 b1 b2 b3 b4 b5 b6 a11 c1 c2 c3 c4 c5 c6 : Nat, u = [(h0, .inr (5, [.int (nI 0), .int (nI 0), .int (nI 0), .int (nI 2), .int (nI 6), .int (nI 700), .int (nI 300), .ref a1, .ref a2, .ref a3, .ref a4, .ref a11])), (a1, .inl (cI, 8, .inl (fun _ => nI 0))), (a2, .inl (cI, 8, .inl (fun _ => nI 0))), (a3, .inl (cI, 64, .inl (fun _ => nI 0))), (a4, .inr (3, [.ref b1, .ref b2, .ref b3, .ref b4, .ref b5, .ref b6])), (b1, .inl (cI, 64, .inl (fun _ => nI 0))), (b2, .inl (cI, 64, .inl (fun _ => nI 0))), (b3, .inl (cI, 8, .inl (fun _ => nI 0))), (b4, .inl (cI, 8, .inl (fun _ => nI 0))), (b5, .inl (cI, 8, .inl (fun _ => nI 0))), (b6, .inl (cI, 8, .inl (fun _ => nI 0))), (a11, .inr (6, [.ref c1, .ref c2, .ref c3, .ref c4, .ref c5, .ref c6, .int (nI 0), .int (nI 0), .int (nI 0)])), (c1, .inl (cI, 64, .inl (fun _ => nI 0))), (c2, .inl (cI, 64, .inl (fun _ => nI 0))), (c3, .inl (cI, 64, .inl (fun _ => nI 0))), (c4, .inl (cI, 8, .inl (fun _ => nI 0))), (c5, .inl (cI, 8, .inl (fun _ => nI 0))), (c6, .inl (cI, 64, .inl (fun _ => nI 0)))]) := by
  refine NC.of rfl (by decide +kernel) (Nat.le_of_ble_eq_true rfl) (fun X A hl h hQ hnm => ?_)
  subst hl
  have h : FxS X D (tyL cI cB cM) cX5_init 1 RX5 3 17 527 := h
  have hQ : QxS X D (tyL cI cB cM) A (fun u => ∃ a1 a2 a3 a4 b1 b2 b3 b4 b5 b6 a11 c1 c2 c3 c4 c5 c6 : Nat, u = [(h0, .inr (5, [.int (nI 0), .int (nI 0), .int (nI 0), .int (nI 2), .int (nI 6), .int (nI 700), .int (nI 300), .ref a1, .ref a2, .ref a3, .ref a4, .ref a11])), (a1, .inl (cI, 8, .inl (fun _ => nI 0))), (a2, .inl (cI, 8, .inl (fun _ => nI 0))), (a3, .inl (cI, 64, .inl (fun _ => nI 0))), (a4, .inr (3, [.ref b1, .ref b2, .ref b3, .ref b4, .ref b5, .ref b6])), (b1, .inl (cI, 64, .inl (fun _ => nI 0))), (b2, .inl (cI, 64, .inl (fun _ => nI 0))), (b3, .inl (cI, 8, .inl (fun _ => nI 0))), (b4, .inl (cI, 8, .inl (fun _ => nI 0))), (b5, .inl (cI, 8, .inl (fun _ => nI 0))), (b6, .inl (cI, 8, .inl (fun _ => nI 0))), (a11, .inr (6, [.ref c1, .ref c2, .ref c3, .ref c4, .ref c5, .ref c6, .int (nI 0), .int (nI 0), .int (nI 0)])), (c1, .inl (cI, 64, .inl (fun _ => nI 0))), (c2, .inl (cI, 64, .inl (fun _ => nI 0))), (c3, .inl (cI, 64, .inl (fun _ => nI 0))), (c4, .inl (cI, 8, .inl (fun _ => nI 0))), (c5, .inl (cI, 8, .inl (fun _ => nI 0))), (c6, .inl (cI, 64, .inl (fun _ => nI 0)))]) 17 527 := hQ
  have hnm : X.2.2.2.2.2.2.2.2.1.name = "<init>" := hnm
  show SG X D A 1 0 [(0, .ref h0)] [] [(h0, .inr (5, [.int (nI 0), .int (nI 0), .int (nI 0), .int (nI 0), .int (nI 0), .int (nI 0), .int (nI 0), .null, .null, .null, .null, .null]))] 0 0
  refine sg_aload_n h dX5_init_0 0 rfl ?_
  refine sg_objInit h dX5_init_1 mX5_3 wd_oi wd_oc (by decide) rfl ?_
  refine sg_aload_n h dX5_init_4 0 rfl ?_
  refine sg_bipush h dX5_init_5 (by decide) ?_
  refine sg_newa (ty := .int) (t0 := 0) (cA := cI) h dX5_init_7 rfl wd_int rfl rfl (Or.inl rfl) (by decide) (Nat.le_of_ble_eq_true rfl) (Nat.le_of_ble_eq_true rfl) (fun q7 => ?_)
  refine sg_ws (ws' := [(h0, .inr (5, [.int (nI 0), .int (nI 0), .int (nI 0), .int (nI 0), .int (nI 0), .int (nI 0), .int (nI 0), .null, .null, .null, .null, .null])), (q7, .inl (cI, 8, .inl (fun _ => nI 0)))]) rfl ?_
  refine sg_putF (q0 := 0) h dX5_init_9 fX5_9 rfl (by decide) rfl okX5 nmX5 rfl  hnm rfl (okX5 7 (by decide)) rfl rfl rfl (Nat.le_of_ble_eq_true rfl) ?_
  refine sg_ws (ws' := [(h0, .inr (5, [.int (nI 0), .int (nI 0), .int (nI 0), .int (nI 0), .int (nI 0), .int (nI 0), .int (nI 0), .ref q7, .null, .null, .null, .null])), (q7, .inl (cI, 8, .inl (fun _ => nI 0)))]) rfl ?_
  refine sg_aload_n h dX5_init_12 0 rfl ?_
  refine sg_bipush h dX5_init_13 (by decide) ?_
  refine sg_newa (ty := .int) (t0 := 0) (cA := cI) h dX5_init_15 rfl wd_int rfl rfl (Or.inl rfl) (by decide) (Nat.le_of_ble_eq_true rfl) (Nat.le_of_ble_eq_true rfl) (fun q15 => ?_)
  refine sg_ws (ws' := [(h0, .inr (5, [.int (nI 0), .int (nI 0), .int (nI 0), .int (nI 0), .int (nI 0), .int (nI 0), .int (nI 0), .ref q7, .null, .null, .null, .null])), (q7, .inl (cI, 8, .inl (fun _ => nI 0))), (q15, .inl (cI, 8, .inl (fun _ => nI 0)))]) rfl ?_
  refine sg_putF (q0 := 0) h dX5_init_17 fX5_15 rfl (by decide) rfl okX5 nmX5 rfl  hnm rfl (okX5 8 (by decide)) rfl rfl rfl (Nat.le_of_ble_eq_true rfl) ?_
  refine sg_ws (ws' := [(h0, .inr (5, [.int (nI 0), .int (nI 0), .int (nI 0), .int (nI 0), .int (nI 0), .int (nI 0), .int (nI 0), .ref q7, .ref q15, .null, .null, .null])), (q7, .inl (cI, 8, .inl (fun _ => nI 0))), (q15, .inl (cI, 8, .inl (fun _ => nI 0)))]) rfl ?_
  refine sg_aload_n h dX5_init_20 0 rfl ?_
  refine sg_bipush h dX5_init_21 (by decide) ?_
  refine sg_newa (ty := .int) (t0 := 0) (cA := cI) h dX5_init_23 rfl wd_int rfl rfl (Or.inl rfl) (by decide) (Nat.le_of_ble_eq_true rfl) (Nat.le_of_ble_eq_true rfl) (fun q23 => ?_)
  refine sg_ws (ws' := [(h0, .inr (5, [.int (nI 0), .int (nI 0), .int (nI 0), .int (nI 0), .int (nI 0), .int (nI 0), .int (nI 0), .ref q7, .ref q15, .null, .null, .null])), (q7, .inl (cI, 8, .inl (fun _ => nI 0))), (q15, .inl (cI, 8, .inl (fun _ => nI 0))), (q23, .inl (cI, 64, .inl (fun _ => nI 0)))]) rfl ?_
  refine sg_putF (q0 := 0) h dX5_init_25 fX5_18 rfl (by decide) rfl okX5 nmX5 rfl  hnm rfl (okX5 9 (by decide)) rfl rfl rfl (Nat.le_of_ble_eq_true rfl) ?_
  refine sg_ws (ws' := [(h0, .inr (5, [.int (nI 0), .int (nI 0), .int (nI 0), .int (nI 0), .int (nI 0), .int (nI 0), .int (nI 0), .ref q7, .ref q15, .ref q23, .null, .null])), (q7, .inl (cI, 8, .inl (fun _ => nI 0))), (q15, .inl (cI, 8, .inl (fun _ => nI 0))), (q23, .inl (cI, 64, .inl (fun _ => nI 0)))]) rfl ?_
  refine sg_aload_n h dX5_init_28 0 rfl ?_
  refine sg_new (ci := 3) (fs := [.null, .null, .null, .null, .null, .null]) (C := RX3) (T := TX3) (NN := 6) h dX5_init_29 tyX3 okX3 inX3 nX5_21 rfl (fun j hj => by rcases (show j = 0 ∨ j = 1 ∨ j = 2 ∨ j = 3 ∨ j = 4 ∨ j = 5 by omega) with rfl | rfl | rfl | rfl | rfl | rfl <;> rfl) (Nat.le_of_ble_eq_true rfl) (Nat.le_of_ble_eq_true rfl) (fun q29 => ?_)
  refine sg_ws (ws' := [(h0, .inr (5, [.int (nI 0), .int (nI 0), .int (nI 0), .int (nI 0), .int (nI 0), .int (nI 0), .int (nI 0), .ref q7, .ref q15, .ref q23, .null, .null])), (q7, .inl (cI, 8, .inl (fun _ => nI 0))), (q15, .inl (cI, 8, .inl (fun _ => nI 0))), (q23, .inl (cI, 64, .inl (fun _ => nI 0))), (q29, .inr (3, [.null, .null, .null, .null, .null, .null]))]) rfl ?_
  refine sg_dup h dX5_init_32 rfl ?_
  refine sg_ci (rest := [.ref q29, .ref h0]) (wc := [(q29, .inr (3, [.null, .null, .null, .null, .null, .null]))]) (wr := [(h0, .inr (5, [.int (nI 0), .int (nI 0), .int (nI 0), .int (nI 0), .int (nI 0), .int (nI 0), .int (nI 0), .ref q7, .ref q15, .ref q23, .null, .null])), (q7, .inl (cI, 8, .inl (fun _ => nI 0))), (q15, .inl (cI, 8, .inl (fun _ => nI 0))), (q23, .inl (cI, 64, .inl (fun _ => nI 0)))]) h (nc_X3 q29) lX3_init mX5_23 rfl (by decide) (by decide) rfl rfl rfl dX5_init_33 [4] [0, 1, 2, 3] rfl rfl rfl rfl (by decide) (Nat.le_of_ble_eq_true rfl) (Nat.le_of_ble_eq_true rfl) (fun u hu => ?_)
  obtain ⟨q1_33, q2_33, q3_33, q4_33, q5_33, q6_33, rfl⟩ := hu
  refine sg_ws (ws' := [(h0, .inr (5, [.int (nI 0), .int (nI 0), .int (nI 0), .int (nI 0), .int (nI 0), .int (nI 0), .int (nI 0), .ref q7, .ref q15, .ref q23, .null, .null])), (q7, .inl (cI, 8, .inl (fun _ => nI 0))), (q15, .inl (cI, 8, .inl (fun _ => nI 0))), (q23, .inl (cI, 64, .inl (fun _ => nI 0))), (q29, .inr (3, [.ref q1_33, .ref q2_33, .ref q3_33, .ref q4_33, .ref q5_33, .ref q6_33])), (q1_33, .inl (cI, 64, .inl (fun _ => nI 0))), (q2_33, .inl (cI, 64, .inl (fun _ => nI 0))), (q3_33, .inl (cI, 8, .inl (fun _ => nI 0))), (q4_33, .inl (cI, 8, .inl (fun _ => nI 0))), (q5_33, .inl (cI, 8, .inl (fun _ => nI 0))), (q6_33, .inl (cI, 8, .inl (fun _ => nI 0)))]) rfl ?_
  refine sg_putF (q0 := 0) h dX5_init_36 fX5_24 rfl (by decide) rfl okX5 nmX5 rfl  hnm rfl (okX5 10 (by decide)) rfl rfl rfl (Nat.le_of_ble_eq_true rfl) ?_
  refine sg_ws (ws' := [(h0, .inr (5, [.int (nI 0), .int (nI 0), .int (nI 0), .int (nI 0), .int (nI 0), .int (nI 0), .int (nI 0), .ref q7, .ref q15, .ref q23, .ref q29, .null])), (q7, .inl (cI, 8, .inl (fun _ => nI 0))), (q15, .inl (cI, 8, .inl (fun _ => nI 0))), (q23, .inl (cI, 64, .inl (fun _ => nI 0))), (q29, .inr (3, [.ref q1_33, .ref q2_33, .ref q3_33, .ref q4_33, .ref q5_33, .ref q6_33])), (q1_33, .inl (cI, 64, .inl (fun _ => nI 0))), (q2_33, .inl (cI, 64, .inl (fun _ => nI 0))), (q3_33, .inl (cI, 8, .inl (fun _ => nI 0))), (q4_33, .inl (cI, 8, .inl (fun _ => nI 0))), (q5_33, .inl (cI, 8, .inl (fun _ => nI 0))), (q6_33, .inl (cI, 8, .inl (fun _ => nI 0)))]) rfl ?_
  refine sg_aload_n h dX5_init_39 0 rfl ?_
  refine sg_new (ci := 6) (fs := [.null, .null, .null, .null, .null, .null, .int (nI 0), .int (nI 0), .int (nI 0)]) (C := RX6) (T := TX6) (NN := 9) h dX5_init_40 tyX6 okX6 inX6 nX5_28 rfl (fun j hj => by rcases (show j = 0 ∨ j = 1 ∨ j = 2 ∨ j = 3 ∨ j = 4 ∨ j = 5 ∨ j = 6 ∨ j = 7 ∨ j = 8 by omega) with rfl | rfl | rfl | rfl | rfl | rfl | rfl | rfl | rfl <;> rfl) (Nat.le_of_ble_eq_true rfl) (Nat.le_of_ble_eq_true rfl) (fun q40 => ?_)
  refine sg_ws (ws' := [(h0, .inr (5, [.int (nI 0), .int (nI 0), .int (nI 0), .int (nI 0), .int (nI 0), .int (nI 0), .int (nI 0), .ref q7, .ref q15, .ref q23, .ref q29, .null])), (q7, .inl (cI, 8, .inl (fun _ => nI 0))), (q15, .inl (cI, 8, .inl (fun _ => nI 0))), (q23, .inl (cI, 64, .inl (fun _ => nI 0))), (q29, .inr (3, [.ref q1_33, .ref q2_33, .ref q3_33, .ref q4_33, .ref q5_33, .ref q6_33])), (q1_33, .inl (cI, 64, .inl (fun _ => nI 0))), (q2_33, .inl (cI, 64, .inl (fun _ => nI 0))), (q3_33, .inl (cI, 8, .inl (fun _ => nI 0))), (q4_33, .inl (cI, 8, .inl (fun _ => nI 0))), (q5_33, .inl (cI, 8, .inl (fun _ => nI 0))), (q6_33, .inl (cI, 8, .inl (fun _ => nI 0))), (q40, .inr (6, [.null, .null, .null, .null, .null, .null, .int (nI 0), .int (nI 0), .int (nI 0)]))]) rfl ?_
  refine sg_dup h dX5_init_43 rfl ?_
  refine sg_ci (rest := [.ref q40, .ref h0]) (wc := [(q40, .inr (6, [.null, .null, .null, .null, .null, .null, .int (nI 0), .int (nI 0), .int (nI 0)]))]) (wr := [(h0, .inr (5, [.int (nI 0), .int (nI 0), .int (nI 0), .int (nI 0), .int (nI 0), .int (nI 0), .int (nI 0), .ref q7, .ref q15, .ref q23, .ref q29, .null])), (q7, .inl (cI, 8, .inl (fun _ => nI 0))), (q15, .inl (cI, 8, .inl (fun _ => nI 0))), (q23, .inl (cI, 64, .inl (fun _ => nI 0))), (q29, .inr (3, [.ref q1_33, .ref q2_33, .ref q3_33, .ref q4_33, .ref q5_33, .ref q6_33])), (q1_33, .inl (cI, 64, .inl (fun _ => nI 0))), (q2_33, .inl (cI, 64, .inl (fun _ => nI 0))), (q3_33, .inl (cI, 8, .inl (fun _ => nI 0))), (q4_33, .inl (cI, 8, .inl (fun _ => nI 0))), (q5_33, .inl (cI, 8, .inl (fun _ => nI 0))), (q6_33, .inl (cI, 8, .inl (fun _ => nI 0)))]) h (nc_X6 q40) lX6_init mX5_30 rfl (by decide) (by decide) rfl rfl rfl dX5_init_44 [11] [0, 1, 2, 3, 4, 5, 6, 7, 8, 9, 10] rfl rfl rfl rfl (by decide) (Nat.le_of_ble_eq_true rfl) (Nat.le_of_ble_eq_true rfl) (fun u hu => ?_)
  obtain ⟨q1_44, q2_44, q3_44, q4_44, q5_44, q6_44, rfl⟩ := hu
  refine sg_ws (ws' := [(h0, .inr (5, [.int (nI 0), .int (nI 0), .int (nI 0), .int (nI 0), .int (nI 0), .int (nI 0), .int (nI 0), .ref q7, .ref q15, .ref q23, .ref q29, .null])), (q7, .inl (cI, 8, .inl (fun _ => nI 0))), (q15, .inl (cI, 8, .inl (fun _ => nI 0))), (q23, .inl (cI, 64, .inl (fun _ => nI 0))), (q29, .inr (3, [.ref q1_33, .ref q2_33, .ref q3_33, .ref q4_33, .ref q5_33, .ref q6_33])), (q1_33, .inl (cI, 64, .inl (fun _ => nI 0))), (q2_33, .inl (cI, 64, .inl (fun _ => nI 0))), (q3_33, .inl (cI, 8, .inl (fun _ => nI 0))), (q4_33, .inl (cI, 8, .inl (fun _ => nI 0))), (q5_33, .inl (cI, 8, .inl (fun _ => nI 0))), (q6_33, .inl (cI, 8, .inl (fun _ => nI 0))), (q40, .inr (6, [.ref q1_44, .ref q2_44, .ref q3_44, .ref q4_44, .ref q5_44, .ref q6_44, .int (nI 0), .int (nI 0), .int (nI 0)])), (q1_44, .inl (cI, 64, .inl (fun _ => nI 0))), (q2_44, .inl (cI, 64, .inl (fun _ => nI 0))), (q3_44, .inl (cI, 64, .inl (fun _ => nI 0))), (q4_44, .inl (cI, 8, .inl (fun _ => nI 0))), (q5_44, .inl (cI, 8, .inl (fun _ => nI 0))), (q6_44, .inl (cI, 64, .inl (fun _ => nI 0)))]) rfl ?_
  refine sg_putF (q0 := 0) h dX5_init_47 fX5_31 rfl (by decide) rfl okX5 nmX5 rfl  hnm rfl (okX5 11 (by decide)) rfl rfl rfl (Nat.le_of_ble_eq_true rfl) ?_
  refine sg_ws (ws' := [(h0, .inr (5, [.int (nI 0), .int (nI 0), .int (nI 0), .int (nI 0), .int (nI 0), .int (nI 0), .int (nI 0), .ref q7, .ref q15, .ref q23, .ref q29, .ref q40])), (q7, .inl (cI, 8, .inl (fun _ => nI 0))), (q15, .inl (cI, 8, .inl (fun _ => nI 0))), (q23, .inl (cI, 64, .inl (fun _ => nI 0))), (q29, .inr (3, [.ref q1_33, .ref q2_33, .ref q3_33, .ref q4_33, .ref q5_33, .ref q6_33])), (q1_33, .inl (cI, 64, .inl (fun _ => nI 0))), (q2_33, .inl (cI, 64, .inl (fun _ => nI 0))), (q3_33, .inl (cI, 8, .inl (fun _ => nI 0))), (q4_33, .inl (cI, 8, .inl (fun _ => nI 0))), (q5_33, .inl (cI, 8, .inl (fun _ => nI 0))), (q6_33, .inl (cI, 8, .inl (fun _ => nI 0))), (q40, .inr (6, [.ref q1_44, .ref q2_44, .ref q3_44, .ref q4_44, .ref q5_44, .ref q6_44, .int (nI 0), .int (nI 0), .int (nI 0)])), (q1_44, .inl (cI, 64, .inl (fun _ => nI 0))), (q2_44, .inl (cI, 64, .inl (fun _ => nI 0))), (q3_44, .inl (cI, 64, .inl (fun _ => nI 0))), (q4_44, .inl (cI, 8, .inl (fun _ => nI 0))), (q5_44, .inl (cI, 8, .inl (fun _ => nI 0))), (q6_44, .inl (cI, 64, .inl (fun _ => nI 0)))]) rfl ?_
  refine sg_aload_n h dX5_init_50 0 rfl ?_
  refine sg_cv (q0 := 0) (rest := []) (wc := [(h0, .inr (5, [.int (nI 0), .int (nI 0), .int (nI 0), .int (nI 0), .int (nI 0), .int (nI 0), .int (nI 0), .ref q7, .ref q15, .ref q23, .ref q29, .ref q40])), (q7, .inl (cI, 8, .inl (fun _ => nI 0))), (q15, .inl (cI, 8, .inl (fun _ => nI 0))), (q23, .inl (cI, 64, .inl (fun _ => nI 0))), (q29, .inr (3, [.ref q1_33, .ref q2_33, .ref q3_33, .ref q4_33, .ref q5_33, .ref q6_33])), (q1_33, .inl (cI, 64, .inl (fun _ => nI 0))), (q2_33, .inl (cI, 64, .inl (fun _ => nI 0))), (q3_33, .inl (cI, 8, .inl (fun _ => nI 0))), (q4_33, .inl (cI, 8, .inl (fun _ => nI 0))), (q5_33, .inl (cI, 8, .inl (fun _ => nI 0))), (q6_33, .inl (cI, 8, .inl (fun _ => nI 0))), (q40, .inr (6, [.ref q1_44, .ref q2_44, .ref q3_44, .ref q4_44, .ref q5_44, .ref q6_44, .int (nI 0), .int (nI 0), .int (nI 0)])), (q1_44, .inl (cI, 64, .inl (fun _ => nI 0))), (q2_44, .inl (cI, 64, .inl (fun _ => nI 0))), (q3_44, .inl (cI, 64, .inl (fun _ => nI 0))), (q4_44, .inl (cI, 8, .inl (fun _ => nI 0))), (q5_44, .inl (cI, 8, .inl (fun _ => nI 0))), (q6_44, .inl (cI, 64, .inl (fun _ => nI 0)))]) (wr := []) h (nc_X5_clear h0 q7 q15 q23 q29 q1_33 q2_33 q3_33 q4_33 q5_33 q6_33 q40 q1_44 q2_44 q3_44 q4_44 q5_44 q6_44) lX5_clear mX5_35 rfl (by decide) (by decide) rfl rfl rfl rfl rfl rfl dX5_init_51 [0, 1, 2, 3, 4, 5, 6, 7, 8, 9, 10, 11, 12, 13, 14, 15, 16, 17] [] rfl rfl rfl rfl (by decide) (Nat.le_of_ble_eq_true rfl) (Nat.le_of_ble_eq_true rfl) (fun u hu => ?_)
  subst hu
  refine sg_ws (ws' := [(h0, .inr (5, [.int (nI 0), .int (nI 0), .int (nI 0), .int (nI 2), .int (nI 6), .int (nI 700), .int (nI 300), .ref q7, .ref q15, .ref q23, .ref q29, .ref q40])), (q7, .inl (cI, 8, .inl (fun _ => nI 0))), (q15, .inl (cI, 8, .inl (fun _ => nI 0))), (q23, .inl (cI, 64, .inl (fun _ => nI 0))), (q29, .inr (3, [.ref q1_33, .ref q2_33, .ref q3_33, .ref q4_33, .ref q5_33, .ref q6_33])), (q1_33, .inl (cI, 64, .inl (fun _ => nI 0))), (q2_33, .inl (cI, 64, .inl (fun _ => nI 0))), (q3_33, .inl (cI, 8, .inl (fun _ => nI 0))), (q4_33, .inl (cI, 8, .inl (fun _ => nI 0))), (q5_33, .inl (cI, 8, .inl (fun _ => nI 0))), (q6_33, .inl (cI, 8, .inl (fun _ => nI 0))), (q40, .inr (6, [.ref q1_44, .ref q2_44, .ref q3_44, .ref q4_44, .ref q5_44, .ref q6_44, .int (nI 0), .int (nI 0), .int (nI 0)])), (q1_44, .inl (cI, 64, .inl (fun _ => nI 0))), (q2_44, .inl (cI, 64, .inl (fun _ => nI 0))), (q3_44, .inl (cI, 64, .inl (fun _ => nI 0))), (q4_44, .inl (cI, 8, .inl (fun _ => nI 0))), (q5_44, .inl (cI, 8, .inl (fun _ => nI 0))), (q6_44, .inl (cI, 64, .inl (fun _ => nI 0)))]) rfl ?_
  refine sg_perm (ws' := [(h0, .inr (5, [.int (nI 0), .int (nI 0), .int (nI 0), .int (nI 2), .int (nI 6), .int (nI 700), .int (nI 300), .ref q7, .ref q15, .ref q23, .ref q29, .ref q40])), (q7, .inl (cI, 8, .inl (fun _ => nI 0))), (q15, .inl (cI, 8, .inl (fun _ => nI 0))), (q23, .inl (cI, 64, .inl (fun _ => nI 0))), (q29, .inr (3, [.ref q1_33, .ref q2_33, .ref q3_33, .ref q4_33, .ref q5_33, .ref q6_33])), (q1_33, .inl (cI, 64, .inl (fun _ => nI 0))), (q2_33, .inl (cI, 64, .inl (fun _ => nI 0))), (q3_33, .inl (cI, 8, .inl (fun _ => nI 0))), (q4_33, .inl (cI, 8, .inl (fun _ => nI 0))), (q5_33, .inl (cI, 8, .inl (fun _ => nI 0))), (q6_33, .inl (cI, 8, .inl (fun _ => nI 0))), (q40, .inr (6, [.ref q1_44, .ref q2_44, .ref q3_44, .ref q4_44, .ref q5_44, .ref q6_44, .int (nI 0), .int (nI 0), .int (nI 0)])), (q1_44, .inl (cI, 64, .inl (fun _ => nI 0))), (q2_44, .inl (cI, 64, .inl (fun _ => nI 0))), (q3_44, .inl (cI, 64, .inl (fun _ => nI 0))), (q4_44, .inl (cI, 8, .inl (fun _ => nI 0))), (q5_44, .inl (cI, 8, .inl (fun _ => nI 0))), (q6_44, .inl (cI, 64, .inl (fun _ => nI 0)))]) [0, 1, 2, 3, 4, 5, 6, 7, 8, 9, 10, 11, 12, 13, 14, 15, 16, 17] rfl rfl ?_
  exact sg_vret h hQ dX5_init_54 ⟨q7, q15, q23, q29, q1_33, q2_33, q3_33, q4_33, q5_33, q6_33, q40, q1_44, q2_44, q3_44, q4_44, q5_44, q6_44, rfl⟩
