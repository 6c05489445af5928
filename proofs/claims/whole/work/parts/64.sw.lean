/-! small worlds: what constructors make -/
def rmC (d mc ms : Nat) : Room := { frames := d, cells := mc, slots := ms, locals := 36 * d }
abbrev TYS : Type := List (ClassId × FieldType)
def FxS (X : GX) (D : va_G) (tys : TYS) (cc : ByteArray) (n : Nat) (own : String) (d mc ms : Nat) : Prop :=
  X.1.tables.exec = Jvm.exec ∧ X.2.2.2.2.2.2.2.2.2.1.code = cc ∧ X.2.2.2.2.2.2.2.2.2.1.maxLocals = n ∧ X.2.2.2.2.1.vm.findClass own = some X.2.2.2.2.2.1.cls ∧
  (∀ c ∈ lw_tbl, goodWord c = true → c.before X.2.2.2.2.2.2.1 X.2.2.2.2.1 = true) ∧ X.2.2.2.2.2.2.2.2.1.locks = false ∧ X.2.2.2.1 = rmC d mc ms ∧ va_K D vwCl tys X.2.2.2.2.1
def SG (X : GX) (D : va_G) (A : Nat → Prop) (n pc : Nat) (L : List (Nat × Value)) (st : List Value) (ws : va_W) (k N : Nat) : Prop :=
  (∀ q, X.2.2.2.2.1.heap.size ≤ q → A q) → ∀ (H : Heap) (locs : List Loc) (ls : Array Slot), va_P D vwCl ws H → va_D A ws → va_S A X.2.2.2.2.1.heap H locs → lv_has ls n L →
    W X.1 X.2.1 X.2.2.1 X.2.2.2.1 X.2.2.2.2.1 X.2.2.2.2.2.1 X.2.2.2.2.2.2.1 X.2.2.2.2.2.2.2.1 X.2.2.2.2.2.2.2.2.1 X.2.2.2.2.2.2.2.2.2.1 H locs k N X.2.2.2.2.2.2.2.2.2.2 (F0 X.2.2.2.2.2.1 pc ls st)
def QnB (D : va_G) (tys : TYS) (A : Nat → Prop) (u : va_W) (t : State) : Prop := va_P D vwCl u t.heap ∧ va_K D vwCl tys t ∧ va_D A u
/-- a constructor's contract (and of what it calls): from the cells ws it comes to cells of P, making mc cells of ms slots -/
def NC (l : Launch) (D : va_G) (tys : TYS) (q : Mq) (d mc ms : Nat) (av : List Value) (ws : va_W) (P : va_W → Prop) : Prop :=
  ∀ sz, Met l q.1 (wsq q) (rmC d mc ms) (va_Pc av (fun U => U.heap.size = sz ∧ va_P D vwCl ws U.heap ∧ va_K D vwCl tys U ∧ va_D (fun _ => True) ws)) (va_Qv P (QnB D tys (va_A ws sz)) (va_A ws sz)) mc ms (va_A ws sz)
def QxS (X : GX) (D : va_G) (tys : TYS) (A : Nat → Prop) (P : va_W → Prop) (mc ms : Nat) : Prop :=
  X.2.2.2.2.2.2.2.2.2.2 = MQ X.2.2.2.2.2.2.2.1 (va_Qv P (QnB D tys A) A) X.2.2.2.2.2.2.1 X.2.2.2.2.1 mc ms A ∧ X.2.2.2.2.2.2.2.2.1.sig.returnType = none
theorem NC.of {l : Launch} {D : va_G} {tys : TYS} {q : Mq} {d mc ms : Nat} {av : List Value} {ws : va_W} {P : va_W → Prop} (hr : q.2.2.2 = none) (hpl : plainFor q.1 = true) (hn : (lg_sl av).length ≤ q.2.2.1)
    (body : ∀ (X : GX) (A : Nat → Prop), X.2.1 = l → FxS X D tys q.2.1 q.2.2.1 q.1.cls d mc ms → QxS X D tys A P mc ms → X.2.2.2.2.2.2.2.2.1.name = q.1.name → SG X D A q.2.2.1 0 (lv_args 0 av) [] ws 0 0) : NC l D tys q d mc ms av ws P := by
  intro sz
  unfold Met
  refine MetFree.of_bodySF (code := q.2.1) (maxLocals := q.2.2.1) (ret := q.2.2.2) hpl ?_ ?_
  · intro args s m h hn
    obtain ⟨meth, c, h1, h2, h3, h4, h5, h6, -, -⟩ := Cond.code_spec hn (atoms_spec (ws := wsq q) h _ List.mem_cons_self)
    exact ⟨meth, c, h1, h2, h3, h4, h5, h6⟩
  · intro p e s m args below meth c s₁ B hml hv _
    have hh0 : s₁.heap = s.heap := by rw [B.state]; rfl
    obtain ⟨rfl, hsz, hP, hK, hD0⟩ := hv
    subst hsz
    have hts := atoms_spec (ws := wsq q) B.pre
    have h := body (p, l, e, rmC d mc ms, s, m, av.toArray, below, meth, c, MQ below (va_Qv P (QnB D tys (va_A ws s.heap.size)) (va_A ws s.heap.size)) av.toArray s mc ms (va_A ws s.heap.size)) (va_A ws s.heap.size) rfl
      ⟨B.exec, B.bytes, hml, findClass_of_methodNamed B.named, fun c hc hg => hts c (List.mem_cons_of_mem _ (List.mem_filter.mpr ⟨hc, hg⟩)), B.notSynchronized, rfl, hK⟩ ⟨rfl, by rw [B.returns, hr]⟩ (name_of_methodNamed B.named B.method).1
    have hl := lv_entry av (n := q.2.2.1) hn
    rw [lg_entry_eq]
    obtain ⟨t, a1, o, b1, b2, b3⟩ := h (fun q h9 => Or.inr h9) s.heap [] _ hP hD0.self va_S.rf hl s₁ hh0 (Stand.of_body B)
    exact ⟨t, o, a1, b1, b2, ⟨b3.1, b3.2⟩⟩
section SR
variable {X : GX} {D : va_G} {tys : TYS} {A : Nat → Prop} {cc : ByteArray} {n pc pc' tgt d mc ms k N : Nat} {own : String} {L L' : List (Nat × Value)} {st : List Value} {ws : va_W}
theorem sg_aload_n {q : Fin 4} {x : Nat} (h : FxS X D tys cc n own d mc ms) (dd : Dx cc pc (.aload_n q) 1 pc') (j : Nat) (hj : L[j]? = some (q.val, .ref x)) (kk : SG X D A n pc' L (.ref x :: st) ws k N) : SG X D A n pc L st ws k N := by
  obtain ⟨p, l, e, R, s, m, args, below, meth, c, Q⟩ := X
  obtain ⟨hx, hb, hml, ho, hts, hlk, hR, hK⟩ := h
  obtain ⟨hd, rfl⟩ := dd
  intro hA H locs ls hP hD hS hl
  exact lv_aload_n hx hb hd rfl (lv_at hl j hj) (kk hA H locs ls hP hD hS hl)
theorem sg_iload_n {q : Fin 4} {x : Int32} (h : FxS X D tys cc n own d mc ms) (dd : Dx cc pc (.iload_n q) 1 pc') (j : Nat) (hj : L[j]? = some (q.val, .int x)) (kk : SG X D A n pc' L (.int x :: st) ws k N) : SG X D A n pc L st ws k N := by
  obtain ⟨p, l, e, R, s, m, args, below, meth, c, Q⟩ := X
  obtain ⟨hx, hb, hml, ho, hts, hlk, hR, hK⟩ := h
  obtain ⟨hd, rfl⟩ := dd
  intro hA H locs ls hP hD hS hl
  exact lv_iload_n hx hb hd rfl (lv_at hl j hj) (kk hA H locs ls hP hD hS hl)
theorem sg_iconst {z : Nat} (h : FxS X D tys cc n own d mc ms) (dd : Dx cc pc (.iconst (Int.ofNat z)) 1 pc') (hz : z < 100) (kk : SG X D A n pc' L (.int (nI z) :: st) ws k N) : SG X D A n pc L st ws k N := by
  obtain ⟨p, l, e, R, s, m, args, below, meth, c, Q⟩ := X
  obtain ⟨hx, hb, hml, ho, hts, hlk, hR, hK⟩ := h
  obtain ⟨hd, rfl⟩ := dd
  intro hA H locs ls hP hD hS hl
  exact lv_iconst hx hb hd (ofInt_nat z (by omega)) (kk hA H locs ls hP hD hS hl)
theorem sg_iconstv {i : Int} {v : Int32} (h : FxS X D tys cc n own d mc ms) (dd : Dx cc pc (.iconst i) 1 pc') (hv : Int32.ofInt i = v) (kk : SG X D A n pc' L (.int v :: st) ws k N) : SG X D A n pc L st ws k N := by
  obtain ⟨p, l, e, R, s, m, args, below, meth, c, Q⟩ := X
  obtain ⟨hx, hb, hml, ho, hts, hlk, hR, hK⟩ := h
  obtain ⟨hd, rfl⟩ := dd
  intro hA H locs ls hP hD hS hl
  exact lv_iconst hx hb hd hv (kk hA H locs ls hP hD hS hl)
theorem sg_bipush {z : Nat} (h : FxS X D tys cc n own d mc ms) (dd : Dx cc pc (.bipush (Int.ofNat z)) 2 pc') (hz : z < 128) (kk : SG X D A n pc' L (.int (nI z) :: st) ws k N) : SG X D A n pc L st ws k N := by
  obtain ⟨p, l, e, R, s, m, args, below, meth, c, Q⟩ := X
  obtain ⟨hx, hb, hml, ho, hts, hlk, hR, hK⟩ := h
  obtain ⟨hd, rfl⟩ := dd
  intro hA H locs ls hP hD hS hl
  exact lv_bipush hx hb hd (si8 z hz) (kk hA H locs ls hP hD hS hl)
theorem sg_sipush {z : Nat} (h : FxS X D tys cc n own d mc ms) (dd : Dx cc pc (.sipush (Int.ofNat z)) 3 pc') (hz : z < 32768) (kk : SG X D A n pc' L (.int (nI z) :: st) ws k N) : SG X D A n pc L st ws k N := by
  obtain ⟨p, l, e, R, s, m, args, below, meth, c, Q⟩ := X
  obtain ⟨hx, hb, hml, ho, hts, hlk, hR, hK⟩ := h
  obtain ⟨hd, rfl⟩ := dd
  intro hA H locs ls hP hD hS hl
  exact lv_sipush hx hb hd (si16 hz) (kk hA H locs ls hP hD hS hl)
theorem sg_dup {va : Value} (h : FxS X D tys cc n own d mc ms) (dd : Dx cc pc (.dup) 1 pc') (hva : va.category = 1) (kk : SG X D A n pc' L (va :: va :: st) ws k N) : SG X D A n pc L (va :: st) ws k N := by
  obtain ⟨p, l, e, R, s, m, args, below, meth, c, Q⟩ := X
  obtain ⟨hx, hb, hml, ho, hts, hlk, hR, hK⟩ := h
  obtain ⟨hd, rfl⟩ := dd
  intro hA H locs ls hP hD hS hl
  exact lv_dup hx hb hd hva (kk hA H locs ls hP hD hS hl)
theorem sg_istore_n {q : Fin 4} {x : Int32} (h : FxS X D tys cc n own d mc ms) (dd : Dx cc pc (.istore_n q) 1 pc') (hc : cat1 L = true) (hn : q.val < n) (hL : lset q.val (.int x) L = L') (kk : SG X D A n pc' L' st ws k N) : SG X D A n pc L (.int x :: st) ws k N := by
  obtain ⟨p, l, e, R, s, m, args, below, meth, c, Q⟩ := X
  obtain ⟨hx, hb, hml, ho, hts, hlk, hR, hK⟩ := h
  obtain ⟨hd, rfl⟩ := dd
  intro hA H locs ls hP hD hS hl
  exact lv_istore_n hx hb hd rfl hl hn rfl (fun ls' hl' => kk hA H locs ls' hP hD hS (by rw [← hL]; exact lset_has hc hl'))
theorem sg_iinc {i a b : Nat} (h : FxS X D tys cc n own d mc ms) (dd : Dx cc pc (.iinc i (Int.ofNat b)) 3 pc') (j : Nat) (hj : L[j]? = some (i, .int (nI a))) (hc : cat1 L = true) (hn : i < n) (hb9 : b < 100) (hL : lset i (.int (nI (a + b))) L = L') (kk : SG X D A n pc' L' st ws k N) : SG X D A n pc L st ws k N := by
  obtain ⟨p, l, e, R, s, m, args, below, meth, c, Q⟩ := X
  obtain ⟨hx, hb, hml, ho, hts, hlk, hR, hK⟩ := h
  obtain ⟨hd, rfl⟩ := dd
  intro hA H locs ls hP hD hS hl
  exact lv_iinc hx hb hd hl (k := j) hj (by rw [ofInt_nat b (by omega), nI_add]) hn rfl (fun ls' hl' => kk hA H locs ls' hP hD hS (by rw [← hL]; exact lset_has hc hl'))
theorem sg_goto (h : FxS X D tys cc n own d mc ms) (dd : Dg cc pc tgt) (kk : SG X D A n tgt L st ws k N) : SG X D A n pc L st ws k N := by
  obtain ⟨p, l, e, R, s, m, args, below, meth, c, Q⟩ := X
  obtain ⟨hx, hb, hml, ho, hts, hlk, hR, hK⟩ := h
  obtain ⟨off, hd, ht⟩ := dd
  intro hA H locs ls hP hD hS hl
  exact lv_goto hx hb hd ht (kk hA H locs ls hP hD hS hl)
theorem sg_icmp_ge {x y : Int32} (h : FxS X D tys cc n own d mc ms) (dd : Dc cc pc .ge tgt pc') (kt : y ≤ x → SG X D A n tgt L st ws k N) (kf : ¬ (y ≤ x) → SG X D A n pc' L st ws k N) : SG X D A n pc L (.int y :: .int x :: st) ws k N := by
  obtain ⟨p, l, e, R, s, m, args, below, meth, c, Q⟩ := X
  obtain ⟨hx, hb, hml, ho, hts, hlk, hR, hK⟩ := h
  obtain ⟨off, hd, ht, rfl⟩ := dd
  intro hA H locs ls hP hD hS hl
  exact lv_icmp_ge hx hb hd ht (fun q => kt q hA H locs ls hP hD hS hl) (fun q => kf q hA H locs ls hP hD hS hl)
theorem sg_new {idx ci NN : Nat} {C : String} {T : u_T} {fs : List Value} (h : FxS X D tys cc n own d mc ms) (dd : Dx cc pc (.new idx) 3 pc') (ty : Nat → FieldType) (hty : ∀ k, k < NN → parseFieldDescriptor (T k).2.2.1 = some (ty k)) (hin : ∀ w ∈ u_ws C T NN, w ∈ lw_tbl) (hw : Cond.classLink own idx C ∈ lw_tbl ∧ Cond.instantiable C NN ∈ lw_tbl ∧ Cond.initialized C ∈ lw_tbl) (hc : vwCl[ci]? = some (C, T, NN)) (hfs : ∀ j, j < NN → defaultValue (ty j) = vp_V fs j) (hcl : k + 1 ≤ mc) (hsl : N + NN ≤ ms)
    (kk : ∀ q, SG X D A n pc' L (.ref q :: st) (ws ++ [(q, .inr (ci, fs))]) (k + 1) (N + NN)) : SG X D A n pc L st ws k N := by
  obtain ⟨p, l, e, R, s, m, args, below, meth, c, Q⟩ := X
  obtain ⟨hx, hb, hml, ho, hts, hlk, hR, hK⟩ := h
  obtain ⟨hd, rfl⟩ := dd
  have hR' : R = rmC d mc ms := hR
  subst hR'
  intro hA H locs ls hP hD hS hl
  exact va_new (Ts := lw_tbl.filter goodWord) hx hb (fun c hc => hts c (List.mem_filter.mp hc).1 (List.mem_filter.mp hc).2) (fun c hc => List.mem_filter.mpr ⟨hin c hc, good_lay hc⟩) ty hty ho (hts _ hw.1 rfl) (hts _ hw.2.1 rfl) (hts _ hw.2.2 rfl) hK hP hD hS hA hc hfs hcl hsl hd (fun q H1 hP1 hD1 hS1 => kk q hA H1 locs ls hP1 hD1 hS1 hl)
theorem sg_objInit {idx a : Nat} (h : FxS X D tys cc n own d mc ms) (dd : Dx cc pc (.invokespecial idx) 3 pc') (hlk : Cond.methodLink own idx ⟨"java/lang/Object", "<init>", "()V"⟩ ∈ lw_tbl) (hi : Cond.instanceMethod ⟨"java/lang/Object", "<init>", "()V"⟩ ∈ lw_tbl) (hcd : Cond.code ⟨"java/lang/Object", "<init>", "()V"⟩ ⟨#[0xb1]⟩ 1 none ∈ lw_tbl) (hd9 : 0 < d) (hrest : Nat.ble (st.map fun v => v.category).sum 8 = true) (kk : SG X D A n pc' L st ws k N) : SG X D A n pc L (.ref a :: st) ws k N := by
  obtain ⟨p, l, e, R, s, m, args, below, meth, c, Q⟩ := X
  obtain ⟨hx, hb, hml, ho, hts, hlks, hR, hK⟩ := h
  obtain ⟨hd, rfl⟩ := dd
  have hR' : R = rmC d mc ms := hR
  subst hR'
  intro hA H locs ls hP hD hS hl
  have hr := Nat.le_of_ble_eq_true hrest
  refine W.objInit hx hb ho (hts _ hlk rfl) (hts _ hi rfl) (hts _ hcd rfl) rfl (by show ls.size = _; rw [hl.1]; exact hml.symm) rfl hd hd9 (by show 2 * 0 + _ + 12 ≤ 36 * d; omega) ?_
  exact W.eq (g2 := F0 m (pc + 3) ls st) rfl (kk hA H locs ls hP hD hS hl)
/-- an array of ints or bytes, of a class that is known -/
theorem sg_newa {ty : FieldType} {atype : ArrayType} {t0 Z : Nat} {cA : ClassId} (h : FxS X D tys cc n own d mc ms) (dd : Dx cc pc (.newarray atype) 2 pc') (hty : newarray.typeOf atype = ty) (hw : Cond.arrayClass ty ∈ lw_tbl) (hg : goodWord (Cond.arrayClass ty) = true) (ht : tys[t0]? = some (cA, ty)) (hprim : (ty = .int ∨ ty = .byte)) (hZ : Z < 4000) (hcl : k + 1 ≤ mc) (hsl : N + Z ≤ ms)
    (kk : ∀ q, SG X D A n pc' L (.ref q :: st) (ws ++ [(q, .inl (cA, Z, .inl fun _ => nI 0))]) (k + 1) (N + Z)) : SG X D A n pc L (.int (nI Z) :: st) ws k N := by
  obtain ⟨p, l, e, R, s, m, args, below, meth, c, Q⟩ := X
  obtain ⟨hx, hb, hml, ho, hts, hlks, hR, hK⟩ := h
  obtain ⟨hd, rfl⟩ := dd
  have hR' : R = rmC d mc ms := hR
  subst hR'
  have e1 : (nI Z).toNatClampNeg = Z := nI_clamp (by omega)
  intro hA H locs ls hP hD hS hl
  have hcA : s.vm.findClass ("[" ++ ty.toString) = some cA := by
    have := (hK.2 t0 _ ht).2
    rcases hprim with rfl | rfl <;> exact this
  refine va_newa hx hb (by rw [hty]; exact hts _ hw hg) hty hK hP hD hS hA (N' := Z) (a0 := (Z, .inl fun _ => nI 0)) (fun cA => by rw [vp_cell_i]; rcases hprim with rfl | rfl <;> rfl) (nI_pos (by omega)) e1 (by rcases hprim with rfl | rfl <;> (show Z * _ ≤ _; simp only [componentBytes]; omega)) hcl hsl hd (fun q cB H1 hK1 hP1 hD1 hS1 => ?_)
  have hcB : cB = cA := by
    have h2 := (hK1.2 tys.length (cB, ty) (by simp)).2
    have h3 : s.vm.findClass ("[" ++ ty.toString) = some cB := by rcases hprim with rfl | rfl <;> exact h2
    exact Option.some.inj (h3.symm.trans hcA)
  subst hcB
  exact kk q hA H1 locs ls hP1 hD1 hS1 hl
theorem sg_putF {idx ci j q0 a x NN : Nat} {C : String} {T : u_T} {ty0 : Nat → FieldType} {ty : FieldType} {fs : List Value} (h : FxS X D tys cc n own d mc ms) (dd : Dx cc pc (.putfield idx) 3 pc') (hf : Fl own idx C T NN j) (hc : vwCl[ci]? = some (C, T, NN)) (hj : j < NN) (hC : (T j).1 = C) (hty : ∀ k, k < NN → parseFieldDescriptor (T k).2.2.1 = some (ty0 k)) (hnm : ∀ a, a < NN → ∀ b, b < NN → a ≠ b → (T a).2.1 ≠ (T b).2.1) (hfin : (T j).2.2.2 = true) (hin : X.2.2.2.2.2.2.2.2.1.name = "<init>") (hown : (T j).1 = own) (hd9 : parseFieldDescriptor (T j).2.2.1 = some ty) (hn9 : narrow ty (.ref x) = .ref x) (hft : fits ty (.ref x) = true) (he : ws[q0]? = some (a, .inr (ci, fs))) (hlen : j < fs.length)
    (kk : SG X D A n pc' L st (ws.set q0 (a, .inr (ci, fs.set j (.ref x)))) k N) : SG X D A n pc L (.ref x :: .ref a :: st) ws k N := by
  obtain ⟨p, l, e, R, s, m, args, below, meth, c, Q⟩ := X
  obtain ⟨hx, hb, hml, ho, hts, hlks, hR, hK⟩ := h
  obtain ⟨hd, rfl⟩ := dd
  intro hA H locs ls hP hD hS hl
  exact va_putF (Ts := lw_tbl.filter goodWord) hx hb (fun c hc => hts c (List.mem_filter.mp hc).1 (List.mem_filter.mp hc).2) (fun c hc => List.mem_filter.mpr ⟨hf.2 c hc, good_lay hc⟩) ty0 hty hnm ho hK hP hD hS q0 he hc j hj (hts _ hf.1 rfl) (fun _ q => by rw [hC] at q; exact q) hfin hin hown hd9 hn9 hft hlen hd (fun H1 locs1 hP1 hD1 hS1 => kk hA H1 locs1 ls hP1 hD1 hS1 hl)
theorem sg_puti {idx ci j q0 a NN : Nat} {x : Int32} {C : String} {T : u_T} {ty0 : Nat → FieldType} {fs : List Value} (h : FxS X D tys cc n own d mc ms) (dd : Dx cc pc (.putfield idx) 3 pc') (hf : Fl own idx C T NN j) (hc : vwCl[ci]? = some (C, T, NN)) (hj : j < NN) (hC : (T j).1 = C) (hty : ∀ k, k < NN → parseFieldDescriptor (T k).2.2.1 = some (ty0 k)) (hnm : ∀ a, a < NN → ∀ b, b < NN → a ≠ b → (T a).2.1 ≠ (T b).2.1) (hfin : (T j).2.2.2 = false) (hd9 : parseFieldDescriptor (T j).2.2.1 = some .int) (he : ws[q0]? = some (a, .inr (ci, fs))) (hlen : j < fs.length)
    (kk : SG X D A n pc' L st (ws.set q0 (a, .inr (ci, fs.set j (.int x)))) k N) : SG X D A n pc L (.int x :: .ref a :: st) ws k N := by
  obtain ⟨p, l, e, R, s, m, args, below, meth, c, Q⟩ := X
  obtain ⟨hx, hb, hml, ho, hts, hlks, hR, hK⟩ := h
  obtain ⟨hd, rfl⟩ := dd
  intro hA H locs ls hP hD hS hl
  exact va_put (Ts := lw_tbl.filter goodWord) hx hb (fun c hc => hts c (List.mem_filter.mp hc).1 (List.mem_filter.mp hc).2) (fun c hc => List.mem_filter.mpr ⟨hf.2 c hc, good_lay hc⟩) ty0 hty hnm ho hK hP hD hS q0 he hc j hj (hts _ hf.1 rfl) (fun _ q => by rw [hC] at q; exact q) hfin hd9 rfl rfl hlen hd (fun H1 locs1 hP1 hD1 hS1 => kk hA H1 locs1 ls hP1 hD1 hS1 hl)
theorem sg_get {idx ci j q0 a NN : Nat} {v : Value} {C : String} {T : u_T} {fs : List Value} (h : FxS X D tys cc n own d mc ms) (dd : Dx cc pc (.getfield idx) 3 pc') (hf : Fl own idx C T NN j) (hc : vwCl[ci]? = some (C, T, NN)) (hj : j < NN) (hC : (T j).1 = C) (he : ws[q0]? = some (a, .inr (ci, fs))) (hv : fs[j]? = some v)
    (kk : SG X D A n pc' L (v :: st) ws k N) : SG X D A n pc L (.ref a :: st) ws k N := by
  obtain ⟨p, l, e, R, s, m, args, below, meth, c, Q⟩ := X
  obtain ⟨hx, hb, hml, ho, hts, hlks, hR, hK⟩ := h
  obtain ⟨hd, rfl⟩ := dd
  intro hA H locs ls hP hD hS hl
  exact va_get (Ts := lw_tbl.filter goodWord) hx hb (fun c hc => hts c (List.mem_filter.mp hc).1 (List.mem_filter.mp hc).2) (fun c hc => List.mem_filter.mpr ⟨hf.2 c hc, good_lay hc⟩) ho hK hP q0 he hc j hj (hts _ hf.1 rfl) (fun _ q => by rw [hC] at q; exact q) hv hd (kk hA H locs ls hP hD hS hl)
theorem sg_iast {q0 t0 a i Z : Nat} {x : Int32} {cA : ClassId} {f : Nat → Int32} (h : FxS X D tys cc n own d mc ms) (dd : Dx cc pc .iastore 1 pc') (ht : tys[t0]? = some (cA, .int)) (he : ws[q0]? = some (a, .inl (cA, Z, .inl f))) (hi : i < Z) (hZ : Z < 4000)
    (kk : SG X D A n pc' L st (ws.set q0 (a, .inl (cA, Z, .inl (upd f i x)))) k N) : SG X D A n pc L (.int x :: .int (nI i) :: .ref a :: st) ws k N := by
  obtain ⟨p, l, e, R, s, m, args, below, meth, c, Q⟩ := X
  obtain ⟨hx, hb, hml, ho, hts, hlks, hR, hK⟩ := h
  obtain ⟨hd, rfl⟩ := dd
  intro hA H locs ls hP hD hS hl
  have e1 : (nI i).toNatClampNeg = i := nI_clamp (by omega)
  exact va_iast hx hb hK hP hD hS q0 t0 he ht (vp_in_nI hi (by omega)) hd (fun H1 locs1 hP1 hD1 hS1 => kk hA H1 locs1 ls (by rw [e1] at hP1; exact hP1) (by rw [e1] at hD1; exact hD1) hS1 hl)
/-- fewer words for the same cells -/
theorem sg_ws {ws' : va_W} (e : ws = ws') (kk : SG X D A n pc L st ws' k N) : SG X D A n pc L st ws k N := by subst e; exact kk
theorem sg_sub (ks : List Nat) (h : lv_pick L ks = L') (kk : SG X D A n pc L' st ws k N) : SG X D A n pc L st ws k N :=
  fun hA H locs ls hP hD hS hl => kk hA H locs ls hP hD hS (lv_sub hl ks h)
theorem sg_vret {P : va_W → Prop} (h : FxS X D tys cc n own d k N) (hQ : QxS X D tys A P k N) (dd : Dx cc pc .return_ 1 pc') (hP9 : P ws) : SG X D A n pc L [] ws k N := by
  obtain ⟨p, l, e, R, s, m, args, below, meth, c, Q⟩ := X
  obtain ⟨hx, hb, hml, ho, hts, hlk, hR, hK⟩ := h
  obtain ⟨hq, hr⟩ := hQ
  intro hA H locs ls hP hD hS hl
  simp only at hq hr ⊢
  rw [hq]
  exact W.vret hx hb hr (fun t ht hW => ⟨⟨ws, rfl, hP9, by rw [ht]; exact hP, va_K.moved hW.alike hK, hD⟩, hS.F ht⟩) hS.2.2 dd.1 hlk
theorem wsq_ok' {q : Mq} {s : State} {args : Array Value} (hts : ∀ c ∈ lw_tbl, goodWord c = true → c.before args s = true) (hc : Cond.code q.1 q.2.1 q.2.2.1 q.2.2.2 ∈ lw_tbl) : ∀ c ∈ wsq q, ∀ (a' : Array Value) (U : State), s.WarmedH U.vm → c.before a' U = true := wsq_ok hts hc
theorem nc_blind {av : List Value} {sz : Nat} {ws : va_W} : FrameBlind (va_Pc av (fun U => U.heap.size = sz ∧ va_P D vwCl ws U.heap ∧ va_K D vwCl tys U ∧ va_D (fun _ => True) ws)) := fun a U g mk q => by
  obtain ⟨q0, q1, qP, qK, qD⟩ := q
  exact ⟨q0, q1, qP, va_K.moved (u := U) (U := U.calling g mk a) (Vm.Alike.refl U.vm) qK, qD⟩
theorem sub_P {ws wc : va_W} {H : Heap} (hP : va_P D vwCl ws H) (is : List Nat) (hs : is.map (fun i => ws[i]?) = wc.map some) : va_P D vwCl wc H := by
  intro k q hq
  have h1 : (is.map (fun i => ws[i]?))[k]? = some (some q) := by rw [hs, List.getElem?_map, hq]; rfl
  rw [List.getElem?_map] at h1
  cases hi : is[k]? with
  | none => rw [hi] at h1; cases h1
  | some i => rw [hi] at h1; exact hP i q (Option.some.inj h1)
/-- a constructor of ours is called -/
theorem sg_ci {q : Mq} {d' mc' ms' idx np b : Nat} {As rest : List Value} {wc wr : va_W} {P : va_W → Prop} (h : FxS X D tys cc n own d mc ms) (hM : NC X.2.1 D tys q d' mc' ms' (.ref b :: As) wc P) (hq : LmI q np) (hlk : Cond.methodLink own idx q.1 ∈ lw_tbl) (hret : q.2.2.2 = none) (hd : d' < d) (hmax : q.2.2.1 < 18) (hn : As.length = np) (hst : st = As.reverse ++ .ref b :: rest) (hrest : Nat.ble (rest.map fun v => v.category).sum 8 = true) (dd : Dx cc pc (.invokespecial idx) 3 pc')
    (isC isR : List Nat) (hC : isC.map (fun i => ws[i]?) = wc.map some) (hR9 : isR.map (fun i => ws[i]?) = wr.map some) (hn0 : va_nd isC = true) (hn1 : va_nd isR = true) (hdis : ∀ i ∈ isR, i ∉ isC) (hcl : k + mc' ≤ mc) (hsl : N + ms' ≤ ms) (kk : ∀ u, P u → SG X D A n pc' L rest (wr ++ u) (k + mc') (N + ms')) : SG X D A n pc L st ws k N := by
  subst hst
  obtain ⟨p, l, e, R, s, m, args, below, meth, c, Q⟩ := X
  obtain ⟨hx, hb, hml, ho, hts, hlks, hR, hK⟩ := h
  obtain ⟨hdd, rfl⟩ := dd
  obtain ⟨y, bb, mL, rt⟩ := q
  have hret : rt = none := hret
  subst hret
  obtain ⟨hc1, hc2, hc3, hc4, hc5, hc6, hc7⟩ := hq
  have hR' : R = rmC d mc ms := hR
  subst hR'
  intro hA H locs ls hP hD hS hl
  have hPc := sub_P hP isC hC
  have hDc := hD.sub isC hn0 hC
  have hFc := va_free (wc := wc) hD hS hA isC hC
  refine va_callv (va_runI (Ts := lw_tbl.filter goodWord) (n := np) ⟨hx, hb, hml, ho, fun c hc => hts c (List.mem_filter.mp hc).1 (List.mem_filter.mp hc).2⟩ (hM H.size)
      ⟨⟨rfl, rfl, hd, by show 8 + (mL + 11) + 36 * d' ≤ 36 * d; have : mL < 18 := hmax; omega, wsq_ok (q := (y, bb, mL, none)) hts hc1, List.mem_cons_self, hts _ hc1 rfl, hts _ hc4 rfl, ⟨hc5, hc6⟩, sq_len hc7, hts _ hlk rfl⟩, hc3, hts _ hc2 rfl⟩
      ⟨nc_blind, fun U hU hWU => ⟨rfl, by rw [hU], by rw [hU]; exact hPc, va_K.moved hWU.alike hK, hDc.weaken (fun _ _ _ _ => trivial)⟩⟩ rfl hn hl.1 rfl (lv_room (Nat.le_of_ble_eq_true hrest)) hdd ⟨hcl, hsl⟩) hS (fun q _ h => hFc q h) hFc (fun u t H1 locs1 ht hvm hw hB hz1 hk1 hS1 => ?_)
  obtain ⟨hP1, hK1, hD1⟩ := hB
  rw [ht] at hP1
  obtain ⟨hP2, hD2⟩ := va_join hP hD isC isR hC hR9 hn1 hdis hk1 hFc hP1 hD1
  exact kk u hw hA H1 locs1 ls hP2 hD2 hS1 hl
/-- a method of an object that is being made -/
theorem sg_cv {q : Mq} {d' mc' ms' idx np q0 ci b NN : Nat} {C : String} {T : u_T} {fs : List Value} {As rest : List Value} {wc wr : va_W} {P : va_W → Prop} (h : FxS X D tys cc n own d mc ms) (hM : NC X.2.1 D tys q d' mc' ms' (.ref b :: As) wc P) (hq : LmV q np) (hlk : Cond.methodLink own idx q.1 ∈ lw_tbl) (hret : q.2.2.2 = none) (hd : d' < d) (hmax : q.2.2.1 < 18) (he : ws[q0]? = some (b, .inr (ci, fs))) (hc : vwCl[ci]? = some (C, T, NN)) (hcls : C = q.1.cls) (hn : As.length = np) (hst : st = As.reverse ++ .ref b :: rest) (hrest : Nat.ble (rest.map fun v => v.category).sum 8 = true) (dd : Dx cc pc (.invokevirtual idx) 3 pc')
    (isC isR : List Nat) (hC : isC.map (fun i => ws[i]?) = wc.map some) (hR9 : isR.map (fun i => ws[i]?) = wr.map some) (hn0 : va_nd isC = true) (hn1 : va_nd isR = true) (hdis : ∀ i ∈ isR, i ∉ isC) (hcl : k + mc' ≤ mc) (hsl : N + ms' ≤ ms) (kk : ∀ u, P u → SG X D A n pc' L rest (wr ++ u) (k + mc') (N + ms')) : SG X D A n pc L st ws k N := by
  subst hst
  obtain ⟨p, l, e, R, s, m, args, below, meth, c, Q⟩ := X
  obtain ⟨hx, hb, hml, ho, hts, hlks, hR, hK⟩ := h
  obtain ⟨hdd, rfl⟩ := dd
  obtain ⟨y, bb, mL, rt⟩ := q
  have hret : rt = none := hret
  subst hret
  obtain ⟨hc1, hc2, hc3, hc4, hc5, hc6, hc7⟩ := hq
  have hR' : R = rmC d mc ms := hR
  subst hR'
  intro hA H locs ls hP hD hS hl
  have hPc := sub_P hP isC hC
  have hDc := hD.sub isC hn0 hC
  have hFc := va_free (wc := wc) hD hS hA isC hC
  have hcell := va_recv hK hP hc he
  rw [hcls] at hcell
  refine va_callv (va_runV (Ts := lw_tbl.filter goodWord) (C := y.cls) (n := np) ⟨hx, hb, hml, ho, fun c hc => hts c (List.mem_filter.mp hc).1 (List.mem_filter.mp hc).2⟩ (hM H.size)
      ⟨⟨rfl, rfl, hd, by show 8 + (mL + 11) + 36 * d' ≤ 36 * d; have : mL < 18 := hmax; omega, wsq_ok (q := (y, bb, mL, none)) hts hc1, List.mem_cons_self, hts _ hc1 rfl, hts _ hc4 rfl, ⟨hc5, hc6⟩, sq_len hc7, hts _ hlk rfl⟩, hts _ hc2 rfl, hts _ hc3 rfl⟩
      ⟨nc_blind, hcell, fun U hU hWU => ⟨rfl, by rw [hU], by rw [hU]; exact hPc, va_K.moved hWU.alike hK, hDc.weaken (fun _ _ _ _ => trivial)⟩⟩ rfl hn hl.1 rfl (lv_room (Nat.le_of_ble_eq_true hrest)) hdd ⟨hcl, hsl⟩) hS (fun q _ h => hFc q h) hFc (fun u t H1 locs1 ht hvm hw hB hz1 hk1 hS1 => ?_)
  obtain ⟨hP1, hK1, hD1⟩ := hB
  rw [ht] at hP1
  obtain ⟨hP2, hD2⟩ := va_join hP hD isC isR hC hR9 hn1 hdis hk1 hFc hP1 hD1
  exact kk u hw hA H1 locs1 ls hP2 hD2 hS1 hl
theorem sg_cs {q : Mq} {d' mc' ms' idx np : Nat} {As rest : List Value} {wc wr : va_W} {P : va_W → Prop} (h : FxS X D tys cc n own d mc ms) (hM : NC X.2.1 D tys q d' mc' ms' As wc P) (hq : LmS q np) (hlk : Cond.methodLink own idx q.1 ∈ lw_tbl) (hret : q.2.2.2 = none) (hd : d' < d) (hmax : q.2.2.1 < 18) (hn : As.length = np) (hst : st = As.reverse ++ rest) (hrest : Nat.ble (rest.map fun v => v.category).sum 8 = true) (dd : Dx cc pc (.invokestatic idx) 3 pc')
    (isC isR : List Nat) (hC : isC.map (fun i => ws[i]?) = wc.map some) (hR9 : isR.map (fun i => ws[i]?) = wr.map some) (hn0 : va_nd isC = true) (hn1 : va_nd isR = true) (hdis : ∀ i ∈ isR, i ∉ isC) (hcl : k + mc' ≤ mc) (hsl : N + ms' ≤ ms) (kk : ∀ u, P u → SG X D A n pc' L rest (wr ++ u) (k + mc') (N + ms')) : SG X D A n pc L st ws k N := by
  subst hst
  obtain ⟨p, l, e, R, s, m, args, below, meth, c, Q⟩ := X
  obtain ⟨hx, hb, hml, ho, hts, hlks, hR, hK⟩ := h
  obtain ⟨hdd, rfl⟩ := dd
  obtain ⟨y, bb, mL, rt⟩ := q
  have hret : rt = none := hret
  subst hret
  obtain ⟨hc1, hc2, hc4, hc5, hc6, hc7⟩ := hq
  have hR' : R = rmC d mc ms := hR
  subst hR'
  intro hA H locs ls hP hD hS hl
  have hPc := sub_P hP isC hC
  have hDc := hD.sub isC hn0 hC
  have hFc := va_free (wc := wc) hD hS hA isC hC
  refine va_callv (va_runS (Ts := lw_tbl.filter goodWord) (n := np) ⟨hx, hb, hml, ho, fun c hc => hts c (List.mem_filter.mp hc).1 (List.mem_filter.mp hc).2⟩ (hM H.size)
      ⟨⟨rfl, rfl, hd, by show 8 + (mL + 11) + 36 * d' ≤ 36 * d; have : mL < 18 := hmax; omega, wsq_ok (q := (y, bb, mL, none)) hts hc1, List.mem_cons_self, hts _ hc1 rfl, hts _ hc4 rfl, ⟨hc5, hc6⟩, sq_len hc7, hts _ hlk rfl⟩, hts _ hc2 rfl⟩
      ⟨nc_blind, fun U hU hWU => ⟨rfl, by rw [hU], by rw [hU]; exact hPc, va_K.moved hWU.alike hK, hDc.weaken (fun _ _ _ _ => trivial)⟩⟩ rfl hn hl.1 rfl (lv_room (Nat.le_of_ble_eq_true hrest)) hdd ⟨hcl, hsl⟩) hS (fun q _ h => hFc q h) hFc (fun u t H1 locs1 ht hvm hw hB hz1 hk1 hS1 => ?_)
  obtain ⟨hP1, hK1, hD1⟩ := hB
  rw [ht] at hP1
  obtain ⟨hP2, hD2⟩ := va_join hP hD isC isR hC hR9 hn1 hdis hk1 hFc hP1 hD1
  exact kk u hw hA H1 locs1 ls hP2 hD2 hS1 hl
end SR
