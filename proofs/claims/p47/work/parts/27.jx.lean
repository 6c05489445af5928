/-! the layer over a ground that holds arrays beside the world -/
def EX (w : Wd) (σ : Mem) (es : va_W) (H : Heap) : Prop := Hp w σ H ∧ va_P w.2.1 vwCl es H
/-- arrays beside the world: none of its cells, none twice -/
def DX (w : Wd) (es : va_W) : Prop := (∀ (k : Nat) (q : Nat × va_E), es[k]? = some q → ¬ wA w q.1) ∧ ∀ (i j : Nat) (p q : Nat × va_E), es[i]? = some p → es[j]? = some q → p.1 = q.1 → i = j
def JX (X : GX) (A : Nat → Prop) (w : Wd) (es : va_W) (n pc : Nat) (L : List (Nat × Value)) (st : List Value) (σ : Mem) (c9 s9 : Nat) : Prop :=
  ∀ (H : Heap) (locs : List Loc) (ls : Array Slot), EX w σ es H → va_S A X.2.2.2.2.1.heap H locs → lv_has ls n L →
    W X.1 X.2.1 X.2.2.1 X.2.2.2.1 X.2.2.2.2.1 X.2.2.2.2.2.1 X.2.2.2.2.2.2.1 X.2.2.2.2.2.2.2.1 X.2.2.2.2.2.2.2.2.1 X.2.2.2.2.2.2.2.2.2.1 H locs c9 s9 X.2.2.2.2.2.2.2.2.2.2 (F0 X.2.2.2.2.2.1 pc ls st)
def Fy (X : GX) (A : Nat → Prop) (w : Wd) (cc : ByteArray) (n : Nat) (own : String) (d : Nat) : Prop :=
  X.1.tables.exec = Jvm.exec ∧ X.2.2.2.2.2.2.2.2.2.1.code = cc ∧ X.2.2.2.2.2.2.2.2.2.1.maxLocals = n ∧ X.2.2.2.2.1.vm.findClass own = some X.2.2.2.2.2.1.cls ∧
  (∀ c ∈ lw_tbl, goodWord c = true → c.before X.2.2.2.2.2.2.1 X.2.2.2.2.1 = true) ∧ X.2.2.2.2.2.2.2.2.1.locks = false ∧ (d ≤ X.2.2.2.1.frames ∧ 36 * d ≤ X.2.2.2.1.locals) ∧ Kc w X.2.2.2.2.1 ∧ Wi w ∧ ∀ q, wA w q → A q
section JR
variable {X : GX} {A : Nat → Prop} {w : Wd} {es : va_W} {cc : ByteArray} {n pc pc' tgt d c9 s9 : Nat} {own : String} {L L' : List (Nat × Value)} {st : List Value} {σ : Mem}
theorem yx_top {x y : Int32} (e : x = y) (k : JX X A w es n pc L (.int y :: st) σ c9 s9) : JX X A w es n pc L (.int x :: st) σ c9 s9 := by
  subst e; exact k
theorem yx_sub (ks : List Nat) (h : lv_pick L ks = L') (k : JX X A w es n pc L' st σ c9 s9) : JX X A w es n pc L st σ c9 s9 :=
  fun H locs ls hH hS hl => k H locs ls hH hS (lv_sub hl ks h)
theorem yx_es {es' : va_W} (e : es = es') (k : JX X A w es' n pc L st σ c9 s9) : JX X A w es n pc L st σ c9 s9 := by
  subst e; exact k
/-- arrays forgotten -/
theorem yx_forget {es' : va_W} (is : List Nat) (e : is.map (fun i => es[i]?) = es'.map some) (k : JX X A w es' n pc L st σ c9 s9) : JX X A w es n pc L st σ c9 s9 :=
  fun H locs ls hH hS hl => k H locs ls ⟨hH.1, sub_P hH.2 is e⟩ hS hl
theorem yx_iconst {z : Nat} (h : Fy X A w cc n own d) (dd : Dx cc pc (.iconst (Int.ofNat z)) 1 pc') (hz : z < 100) (k : JX X A w es n pc' L (.int (nI z) :: st) σ c9 s9) : JX X A w es n pc L (st) σ c9 s9 := by
  obtain ⟨p, l, e, R, s, m, args, below, meth, c, Q⟩ := X
  obtain ⟨hx, hb, hml, ho, hts, hlk, hR, hK, hW⟩ := h
  obtain ⟨hd, rfl⟩ := dd
  intro H locs ls hH hS hl
  exact lv_iconst hx hb hd (ofInt_nat z (by omega)) (k H locs ls hH hS hl)
theorem yx_iconstv {i : Int} {v : Int32} (h : Fy X A w cc n own d) (dd : Dx cc pc (.iconst i) 1 pc') (hv : Int32.ofInt i = v) (k : JX X A w es n pc' L (.int v :: st) σ c9 s9) : JX X A w es n pc L (st) σ c9 s9 := by
  obtain ⟨p, l, e, R, s, m, args, below, meth, c, Q⟩ := X
  obtain ⟨hx, hb, hml, ho, hts, hlk, hR, hK, hW⟩ := h
  obtain ⟨hd, rfl⟩ := dd
  intro H locs ls hH hS hl
  exact lv_iconst hx hb hd hv (k H locs ls hH hS hl)
theorem yx_bipush {z : Nat} (h : Fy X A w cc n own d) (dd : Dx cc pc (.bipush (Int.ofNat z)) 2 pc') (hz : z < 128) (k : JX X A w es n pc' L (.int (nI z) :: st) σ c9 s9) : JX X A w es n pc L (st) σ c9 s9 := by
  obtain ⟨p, l, e, R, s, m, args, below, meth, c, Q⟩ := X
  obtain ⟨hx, hb, hml, ho, hts, hlk, hR, hK, hW⟩ := h
  obtain ⟨hd, rfl⟩ := dd
  intro H locs ls hH hS hl
  exact lv_bipush hx hb hd (si8 z hz) (k H locs ls hH hS hl)
theorem yx_bipushv {i : Int} {v : Int32} (h : Fy X A w cc n own d) (dd : Dx cc pc (.bipush i) 2 pc') (hv : (Int8.ofInt i).toInt32 = v) (k : JX X A w es n pc' L (.int v :: st) σ c9 s9) : JX X A w es n pc L (st) σ c9 s9 := by
  obtain ⟨p, l, e, R, s, m, args, below, meth, c, Q⟩ := X
  obtain ⟨hx, hb, hml, ho, hts, hlk, hR, hK, hW⟩ := h
  obtain ⟨hd, rfl⟩ := dd
  intro H locs ls hH hS hl
  exact lv_bipush hx hb hd hv (k H locs ls hH hS hl)
theorem yx_sipush {z : Nat} (h : Fy X A w cc n own d) (dd : Dx cc pc (.sipush (Int.ofNat z)) 3 pc') (hz : z < 32768) (k : JX X A w es n pc' L (.int (nI z) :: st) σ c9 s9) : JX X A w es n pc L (st) σ c9 s9 := by
  obtain ⟨p, l, e, R, s, m, args, below, meth, c, Q⟩ := X
  obtain ⟨hx, hb, hml, ho, hts, hlk, hR, hK, hW⟩ := h
  obtain ⟨hd, rfl⟩ := dd
  intro H locs ls hH hS hl
  exact lv_sipush hx hb hd (si16 hz) (k H locs ls hH hS hl)
theorem yx_iload_n {q : Fin 4} {x : Int32} (h : Fy X A w cc n own d) (dd : Dx cc pc (.iload_n q) 1 pc') (j : Nat) (hj : L[j]? = some (q.val, .int x)) (k : JX X A w es n pc' L (.int x :: st) σ c9 s9) : JX X A w es n pc L (st) σ c9 s9 := by
  obtain ⟨p, l, e, R, s, m, args, below, meth, c, Q⟩ := X
  obtain ⟨hx, hb, hml, ho, hts, hlk, hR, hK, hW⟩ := h
  obtain ⟨hd, rfl⟩ := dd
  intro H locs ls hH hS hl
  exact lv_iload_n hx hb hd rfl (lv_at hl j hj) (k H locs ls hH hS hl)
theorem yx_iload {i : Nat} {x : Int32} (h : Fy X A w cc n own d) (dd : Dx cc pc (.iload i) 2 pc') (j : Nat) (hj : L[j]? = some (i, .int x)) (k : JX X A w es n pc' L (.int x :: st) σ c9 s9) : JX X A w es n pc L (st) σ c9 s9 := by
  obtain ⟨p, l, e, R, s, m, args, below, meth, c, Q⟩ := X
  obtain ⟨hx, hb, hml, ho, hts, hlk, hR, hK, hW⟩ := h
  obtain ⟨hd, rfl⟩ := dd
  intro H locs ls hH hS hl
  exact lv_iload hx hb hd (lv_at hl j hj) (k H locs ls hH hS hl)
theorem yx_aload_n {q : Fin 4} {x : Nat} (h : Fy X A w cc n own d) (dd : Dx cc pc (.aload_n q) 1 pc') (j : Nat) (hj : L[j]? = some (q.val, .ref x)) (k : JX X A w es n pc' L (.ref x :: st) σ c9 s9) : JX X A w es n pc L (st) σ c9 s9 := by
  obtain ⟨p, l, e, R, s, m, args, below, meth, c, Q⟩ := X
  obtain ⟨hx, hb, hml, ho, hts, hlk, hR, hK, hW⟩ := h
  obtain ⟨hd, rfl⟩ := dd
  intro H locs ls hH hS hl
  exact lv_aload_n hx hb hd rfl (lv_at hl j hj) (k H locs ls hH hS hl)
theorem yx_aload {i : Nat} {x : Nat} (h : Fy X A w cc n own d) (dd : Dx cc pc (.aload i) 2 pc') (j : Nat) (hj : L[j]? = some (i, .ref x)) (k : JX X A w es n pc' L (.ref x :: st) σ c9 s9) : JX X A w es n pc L (st) σ c9 s9 := by
  obtain ⟨p, l, e, R, s, m, args, below, meth, c, Q⟩ := X
  obtain ⟨hx, hb, hml, ho, hts, hlk, hR, hK, hW⟩ := h
  obtain ⟨hd, rfl⟩ := dd
  intro H locs ls hH hS hl
  exact lv_aload hx hb hd (lv_at hl j hj) (k H locs ls hH hS hl)
theorem yx_istore_n {q : Fin 4} {x : Int32} (h : Fy X A w cc n own d) (dd : Dx cc pc (.istore_n q) 1 pc') (hc : cat1 L = true) (hn : q.val < n) (hL : lset q.val (.int x) L = L') (k : JX X A w es n pc' L' st σ c9 s9) : JX X A w es n pc L (.int x :: st) σ c9 s9 := by
  obtain ⟨p, l, e, R, s, m, args, below, meth, c, Q⟩ := X
  obtain ⟨hx, hb, hml, ho, hts, hlk, hR, hK, hW⟩ := h
  obtain ⟨hd, rfl⟩ := dd
  subst hL
  intro H locs ls hH hS hl
  exact lv_istore_n hx hb hd rfl hl hn rfl (fun ls' hl' => k H locs ls' hH hS (lset_has hc hl'))
theorem yx_istore {i : Nat} {x : Int32} (h : Fy X A w cc n own d) (dd : Dx cc pc (.istore i) 2 pc') (hc : cat1 L = true) (hn : i < n) (hL : lset i (.int x) L = L') (k : JX X A w es n pc' L' st σ c9 s9) : JX X A w es n pc L (.int x :: st) σ c9 s9 := by
  obtain ⟨p, l, e, R, s, m, args, below, meth, c, Q⟩ := X
  obtain ⟨hx, hb, hml, ho, hts, hlk, hR, hK, hW⟩ := h
  obtain ⟨hd, rfl⟩ := dd
  subst hL
  intro H locs ls hH hS hl
  exact lv_istore hx hb hd hl hn rfl (fun ls' hl' => k H locs ls' hH hS (lset_has hc hl'))
theorem yx_astore_n {q : Fin 4} {x : Nat} (h : Fy X A w cc n own d) (dd : Dx cc pc (.astore_n q) 1 pc') (hc : cat1 L = true) (hn : q.val < n) (hL : lset q.val (.ref x) L = L') (k : JX X A w es n pc' L' st σ c9 s9) : JX X A w es n pc L (.ref x :: st) σ c9 s9 := by
  obtain ⟨p, l, e, R, s, m, args, below, meth, c, Q⟩ := X
  obtain ⟨hx, hb, hml, ho, hts, hlk, hR, hK, hW⟩ := h
  obtain ⟨hd, rfl⟩ := dd
  subst hL
  intro H locs ls hH hS hl
  exact lv_astore_n hx hb hd rfl hl hn rfl (fun ls' hl' => k H locs ls' hH hS (lset_has hc hl'))
theorem yx_astore {i : Nat} {x : Nat} (h : Fy X A w cc n own d) (dd : Dx cc pc (.astore i) 2 pc') (hc : cat1 L = true) (hn : i < n) (hL : lset i (.ref x) L = L') (k : JX X A w es n pc' L' st σ c9 s9) : JX X A w es n pc L (.ref x :: st) σ c9 s9 := by
  obtain ⟨p, l, e, R, s, m, args, below, meth, c, Q⟩ := X
  obtain ⟨hx, hb, hml, ho, hts, hlk, hR, hK, hW⟩ := h
  obtain ⟨hd, rfl⟩ := dd
  subst hL
  intro H locs ls hH hS hl
  exact lv_astore hx hb hd hl hn rfl (fun ls' hl' => k H locs ls' hH hS (lset_has hc hl'))
theorem yx_iinc {i : Nat} {z : Int} {x v : Int32} (h : Fy X A w cc n own d) (dd : Dx cc pc (.iinc i z) 3 pc') (j : Nat) (hj : L[j]? = some (i, .int x)) (hc : cat1 L = true) (hn : i < n) (hv : x + Int32.ofInt z = v) (hL : lset i (.int v) L = L') (k : JX X A w es n pc' L' st σ c9 s9) : JX X A w es n pc L (st) σ c9 s9 := by
  obtain ⟨p, l, e, R, s, m, args, below, meth, c, Q⟩ := X
  obtain ⟨hx, hb, hml, ho, hts, hlk, hR, hK, hW⟩ := h
  obtain ⟨hd, rfl⟩ := dd
  subst hL
  intro H locs ls hH hS hl
  exact lv_iinc hx hb hd hl (k := j) hj hv hn rfl (fun ls' hl' => k H locs ls' hH hS (lset_has hc hl'))
theorem yx_iadd {x y : Int32} (h : Fy X A w cc n own d) (dd : Dx cc pc (.iadd) 1 pc') (k : JX X A w es n pc' L (.int (x + y) :: st) σ c9 s9) : JX X A w es n pc L (.int y :: .int x :: st) σ c9 s9 := by
  obtain ⟨p, l, e, R, s, m, args, below, meth, c, Q⟩ := X
  obtain ⟨hx, hb, hml, ho, hts, hlk, hR, hK, hW⟩ := h
  obtain ⟨hd, rfl⟩ := dd
  intro H locs ls hH hS hl
  exact lv_iadd hx hb hd (k H locs ls hH hS hl)
theorem yx_isub {x y : Int32} (h : Fy X A w cc n own d) (dd : Dx cc pc (.isub) 1 pc') (k : JX X A w es n pc' L (.int (x - y) :: st) σ c9 s9) : JX X A w es n pc L (.int y :: .int x :: st) σ c9 s9 := by
  obtain ⟨p, l, e, R, s, m, args, below, meth, c, Q⟩ := X
  obtain ⟨hx, hb, hml, ho, hts, hlk, hR, hK, hW⟩ := h
  obtain ⟨hd, rfl⟩ := dd
  intro H locs ls hH hS hl
  exact lv_isub hx hb hd (k H locs ls hH hS hl)
theorem yx_imul {x y : Int32} (h : Fy X A w cc n own d) (dd : Dx cc pc (.imul) 1 pc') (k : JX X A w es n pc' L (.int (x * y) :: st) σ c9 s9) : JX X A w es n pc L (.int y :: .int x :: st) σ c9 s9 := by
  obtain ⟨p, l, e, R, s, m, args, below, meth, c, Q⟩ := X
  obtain ⟨hx, hb, hml, ho, hts, hlk, hR, hK, hW⟩ := h
  obtain ⟨hd, rfl⟩ := dd
  intro H locs ls hH hS hl
  exact lv_imul hx hb hd (k H locs ls hH hS hl)
theorem yx_iand {x y : Int32} (h : Fy X A w cc n own d) (dd : Dx cc pc (.iand) 1 pc') (k : JX X A w es n pc' L (.int (x &&& y) :: st) σ c9 s9) : JX X A w es n pc L (.int y :: .int x :: st) σ c9 s9 := by
  obtain ⟨p, l, e, R, s, m, args, below, meth, c, Q⟩ := X
  obtain ⟨hx, hb, hml, ho, hts, hlk, hR, hK, hW⟩ := h
  obtain ⟨hd, rfl⟩ := dd
  intro H locs ls hH hS hl
  exact lv_iand hx hb hd (k H locs ls hH hS hl)
theorem yx_ior {x y : Int32} (h : Fy X A w cc n own d) (dd : Dx cc pc (.ior) 1 pc') (k : JX X A w es n pc' L (.int (x ||| y) :: st) σ c9 s9) : JX X A w es n pc L (.int y :: .int x :: st) σ c9 s9 := by
  obtain ⟨p, l, e, R, s, m, args, below, meth, c, Q⟩ := X
  obtain ⟨hx, hb, hml, ho, hts, hlk, hR, hK, hW⟩ := h
  obtain ⟨hd, rfl⟩ := dd
  intro H locs ls hH hS hl
  exact lv_ior hx hb hd (k H locs ls hH hS hl)
theorem yx_ixor {x y : Int32} (h : Fy X A w cc n own d) (dd : Dx cc pc (.ixor) 1 pc') (k : JX X A w es n pc' L (.int (x ^^^ y) :: st) σ c9 s9) : JX X A w es n pc L (.int y :: .int x :: st) σ c9 s9 := by
  obtain ⟨p, l, e, R, s, m, args, below, meth, c, Q⟩ := X
  obtain ⟨hx, hb, hml, ho, hts, hlk, hR, hK, hW⟩ := h
  obtain ⟨hd, rfl⟩ := dd
  intro H locs ls hH hS hl
  exact lv_ixor hx hb hd (k H locs ls hH hS hl)
theorem yx_ishl {x y : Int32} (h : Fy X A w cc n own d) (dd : Dx cc pc (.ishl) 1 pc') (k : JX X A w es n pc' L (.int (x <<< (y &&& 31)) :: st) σ c9 s9) : JX X A w es n pc L (.int y :: .int x :: st) σ c9 s9 := by
  obtain ⟨p, l, e, R, s, m, args, below, meth, c, Q⟩ := X
  obtain ⟨hx, hb, hml, ho, hts, hlk, hR, hK, hW⟩ := h
  obtain ⟨hd, rfl⟩ := dd
  intro H locs ls hH hS hl
  exact lv_ishl hx hb hd (k H locs ls hH hS hl)
theorem yx_ishr {x y : Int32} (h : Fy X A w cc n own d) (dd : Dx cc pc (.ishr) 1 pc') (k : JX X A w es n pc' L (.int (x >>> (y &&& 31)) :: st) σ c9 s9) : JX X A w es n pc L (.int y :: .int x :: st) σ c9 s9 := by
  obtain ⟨p, l, e, R, s, m, args, below, meth, c, Q⟩ := X
  obtain ⟨hx, hb, hml, ho, hts, hlk, hR, hK, hW⟩ := h
  obtain ⟨hd, rfl⟩ := dd
  intro H locs ls hH hS hl
  exact lv_ishr hx hb hd (k H locs ls hH hS hl)
theorem yx_irem {x y : Int32} (h : Fy X A w cc n own d) (dd : Dx cc pc (.irem) 1 pc') (hne : ¬ y = 0) (k : JX X A w es n pc' L (.int (x - x / y * y) :: st) σ c9 s9) : JX X A w es n pc L (.int y :: .int x :: st) σ c9 s9 := by
  obtain ⟨p, l, e, R, s, m, args, below, meth, c, Q⟩ := X
  obtain ⟨hx, hb, hml, ho, hts, hlk, hR, hK, hW⟩ := h
  obtain ⟨hd, rfl⟩ := dd
  intro H locs ls hH hS hl
  exact lv_irem hx hb hd hne (k H locs ls hH hS hl)
theorem yx_iaddN {a b : Nat} (h : Fy X A w cc n own d) (dd : Dx cc pc (.iadd) 1 pc') (k : JX X A w es n pc' L (.int (nI (a + b)) :: st) σ c9 s9) : JX X A w es n pc L (.int (nI b) :: .int (nI a) :: st) σ c9 s9 := by
  exact yx_iadd h dd (by rw [nI_add]; exact k)
theorem yx_imulN {a b : Nat} (h : Fy X A w cc n own d) (dd : Dx cc pc (.imul) 1 pc') (k : JX X A w es n pc' L (.int (nI (a * b)) :: st) σ c9 s9) : JX X A w es n pc L (.int (nI b) :: .int (nI a) :: st) σ c9 s9 := by
  exact yx_imul h dd (by rw [pk_mul]; exact k)
theorem yx_isubN {a b : Nat} (h : Fy X A w cc n own d) (dd : Dx cc pc (.isub) 1 pc') (hle : b ≤ a) (k : JX X A w es n pc' L (.int (nI (a - b)) :: st) σ c9 s9) : JX X A w es n pc L (.int (nI b) :: .int (nI a) :: st) σ c9 s9 := by
  exact yx_isub h dd (by rw [pk_sub hle]; exact k)
theorem yx_iincN {i a b : Nat} (h : Fy X A w cc n own d) (dd : Dx cc pc (.iinc i (Int.ofNat b)) 3 pc') (j : Nat) (hj : L[j]? = some (i, .int (nI a))) (hc : cat1 L = true) (hn : i < n) (hb : b < 100) (hL : lset i (.int (nI (a + b))) L = L') (k : JX X A w es n pc' L' st σ c9 s9) : JX X A w es n pc L (st) σ c9 s9 := by
  exact yx_iinc h dd j hj hc hn (by rw [ofInt_nat b (by omega), nI_add]) hL k
theorem yx_pop {va : Value} (h : Fy X A w cc n own d) (dd : Dx cc pc (.pop) 1 pc') (hva : va.category = 1) (k : JX X A w es n pc' L (st) σ c9 s9) : JX X A w es n pc L (va :: st) σ c9 s9 := by
  obtain ⟨p, l, e, R, s, m, args, below, meth, c, Q⟩ := X
  obtain ⟨hx, hb, hml, ho, hts, hlk, hR, hK, hW⟩ := h
  obtain ⟨hd, rfl⟩ := dd
  intro H locs ls hH hS hl
  exact lv_pop hx hb hd hva (k H locs ls hH hS hl)
theorem yx_dup {va : Value} (h : Fy X A w cc n own d) (dd : Dx cc pc (.dup) 1 pc') (hva : va.category = 1) (k : JX X A w es n pc' L (va :: va :: st) σ c9 s9) : JX X A w es n pc L (va :: st) σ c9 s9 := by
  obtain ⟨p, l, e, R, s, m, args, below, meth, c, Q⟩ := X
  obtain ⟨hx, hb, hml, ho, hts, hlk, hR, hK, hW⟩ := h
  obtain ⟨hd, rfl⟩ := dd
  intro H locs ls hH hS hl
  exact lv_dup hx hb hd hva (k H locs ls hH hS hl)
theorem yx_if_eq {x : Int32} (h : Fy X A w cc n own d) (dd : Dz cc pc .eq tgt pc') (kt : x = 0 → JX X A w es n tgt L st σ c9 s9) (kf : ¬ (x = 0) → JX X A w es n pc' L st σ c9 s9) : JX X A w es n pc L (.int x :: st) σ c9 s9 := by
  obtain ⟨p, l, e, R, s, m, args, below, meth, c, Q⟩ := X
  obtain ⟨hx, hb, hml, ho, hts, hlk, hR, hK, hW⟩ := h
  obtain ⟨off, hd, ht, rfl⟩ := dd
  intro H locs ls hH hS hl
  exact lv_if_eq hx hb hd ht (fun q => kt q H locs ls hH hS hl) (fun q => kf q H locs ls hH hS hl)
theorem yx_if_ne {x : Int32} (h : Fy X A w cc n own d) (dd : Dz cc pc .ne tgt pc') (kt : x ≠ 0 → JX X A w es n tgt L st σ c9 s9) (kf : x = 0 → JX X A w es n pc' L st σ c9 s9) : JX X A w es n pc L (.int x :: st) σ c9 s9 := by
  obtain ⟨p, l, e, R, s, m, args, below, meth, c, Q⟩ := X
  obtain ⟨hx, hb, hml, ho, hts, hlk, hR, hK, hW⟩ := h
  obtain ⟨off, hd, ht, rfl⟩ := dd
  intro H locs ls hH hS hl
  exact lv_if_ne hx hb hd ht (fun q => kt q H locs ls hH hS hl) (fun q => kf q H locs ls hH hS hl)
theorem yx_if_lt {x : Int32} (h : Fy X A w cc n own d) (dd : Dz cc pc .lt tgt pc') (kt : x < 0 → JX X A w es n tgt L st σ c9 s9) (kf : ¬ (x < 0) → JX X A w es n pc' L st σ c9 s9) : JX X A w es n pc L (.int x :: st) σ c9 s9 := by
  obtain ⟨p, l, e, R, s, m, args, below, meth, c, Q⟩ := X
  obtain ⟨hx, hb, hml, ho, hts, hlk, hR, hK, hW⟩ := h
  obtain ⟨off, hd, ht, rfl⟩ := dd
  intro H locs ls hH hS hl
  exact lv_if_lt hx hb hd ht (fun q => kt q H locs ls hH hS hl) (fun q => kf q H locs ls hH hS hl)
theorem yx_if_ge {x : Int32} (h : Fy X A w cc n own d) (dd : Dz cc pc .ge tgt pc') (kt : 0 ≤ x → JX X A w es n tgt L st σ c9 s9) (kf : ¬ (0 ≤ x) → JX X A w es n pc' L st σ c9 s9) : JX X A w es n pc L (.int x :: st) σ c9 s9 := by
  obtain ⟨p, l, e, R, s, m, args, below, meth, c, Q⟩ := X
  obtain ⟨hx, hb, hml, ho, hts, hlk, hR, hK, hW⟩ := h
  obtain ⟨off, hd, ht, rfl⟩ := dd
  intro H locs ls hH hS hl
  exact lv_if_ge hx hb hd ht (fun q => kt q H locs ls hH hS hl) (fun q => kf q H locs ls hH hS hl)
theorem yx_if_gt {x : Int32} (h : Fy X A w cc n own d) (dd : Dz cc pc .gt tgt pc') (kt : 0 < x → JX X A w es n tgt L st σ c9 s9) (kf : ¬ (0 < x) → JX X A w es n pc' L st σ c9 s9) : JX X A w es n pc L (.int x :: st) σ c9 s9 := by
  obtain ⟨p, l, e, R, s, m, args, below, meth, c, Q⟩ := X
  obtain ⟨hx, hb, hml, ho, hts, hlk, hR, hK, hW⟩ := h
  obtain ⟨off, hd, ht, rfl⟩ := dd
  intro H locs ls hH hS hl
  exact lv_if_gt hx hb hd ht (fun q => kt q H locs ls hH hS hl) (fun q => kf q H locs ls hH hS hl)
theorem yx_if_le {x : Int32} (h : Fy X A w cc n own d) (dd : Dz cc pc .le tgt pc') (kt : x ≤ 0 → JX X A w es n tgt L st σ c9 s9) (kf : ¬ (x ≤ 0) → JX X A w es n pc' L st σ c9 s9) : JX X A w es n pc L (.int x :: st) σ c9 s9 := by
  obtain ⟨p, l, e, R, s, m, args, below, meth, c, Q⟩ := X
  obtain ⟨hx, hb, hml, ho, hts, hlk, hR, hK, hW⟩ := h
  obtain ⟨off, hd, ht, rfl⟩ := dd
  intro H locs ls hH hS hl
  exact lv_if_le hx hb hd ht (fun q => kt q H locs ls hH hS hl) (fun q => kf q H locs ls hH hS hl)
theorem yx_icmp_eq {x y : Int32} (h : Fy X A w cc n own d) (dd : Dc cc pc .eq tgt pc') (kt : x = y → JX X A w es n tgt L st σ c9 s9) (kf : ¬ (x = y) → JX X A w es n pc' L st σ c9 s9) : JX X A w es n pc L (.int y :: .int x :: st) σ c9 s9 := by
  obtain ⟨p, l, e, R, s, m, args, below, meth, c, Q⟩ := X
  obtain ⟨hx, hb, hml, ho, hts, hlk, hR, hK, hW⟩ := h
  obtain ⟨off, hd, ht, rfl⟩ := dd
  intro H locs ls hH hS hl
  exact lv_icmp_eq hx hb hd ht (fun q => kt q H locs ls hH hS hl) (fun q => kf q H locs ls hH hS hl)
theorem yx_icmp_ne {x y : Int32} (h : Fy X A w cc n own d) (dd : Dc cc pc .ne tgt pc') (kt : x ≠ y → JX X A w es n tgt L st σ c9 s9) (kf : x = y → JX X A w es n pc' L st σ c9 s9) : JX X A w es n pc L (.int y :: .int x :: st) σ c9 s9 := by
  obtain ⟨p, l, e, R, s, m, args, below, meth, c, Q⟩ := X
  obtain ⟨hx, hb, hml, ho, hts, hlk, hR, hK, hW⟩ := h
  obtain ⟨off, hd, ht, rfl⟩ := dd
  intro H locs ls hH hS hl
  exact lv_icmp_ne hx hb hd ht (fun q => kt q H locs ls hH hS hl) (fun q => kf q H locs ls hH hS hl)
theorem yx_icmp_lt {x y : Int32} (h : Fy X A w cc n own d) (dd : Dc cc pc .lt tgt pc') (kt : x < y → JX X A w es n tgt L st σ c9 s9) (kf : ¬ (x < y) → JX X A w es n pc' L st σ c9 s9) : JX X A w es n pc L (.int y :: .int x :: st) σ c9 s9 := by
  obtain ⟨p, l, e, R, s, m, args, below, meth, c, Q⟩ := X
  obtain ⟨hx, hb, hml, ho, hts, hlk, hR, hK, hW⟩ := h
  obtain ⟨off, hd, ht, rfl⟩ := dd
  intro H locs ls hH hS hl
  exact lv_icmp_lt hx hb hd ht (fun q => kt q H locs ls hH hS hl) (fun q => kf q H locs ls hH hS hl)
theorem yx_icmp_ge {x y : Int32} (h : Fy X A w cc n own d) (dd : Dc cc pc .ge tgt pc') (kt : y ≤ x → JX X A w es n tgt L st σ c9 s9) (kf : ¬ (y ≤ x) → JX X A w es n pc' L st σ c9 s9) : JX X A w es n pc L (.int y :: .int x :: st) σ c9 s9 := by
  obtain ⟨p, l, e, R, s, m, args, below, meth, c, Q⟩ := X
  obtain ⟨hx, hb, hml, ho, hts, hlk, hR, hK, hW⟩ := h
  obtain ⟨off, hd, ht, rfl⟩ := dd
  intro H locs ls hH hS hl
  exact lv_icmp_ge hx hb hd ht (fun q => kt q H locs ls hH hS hl) (fun q => kf q H locs ls hH hS hl)
theorem yx_icmp_gt {x y : Int32} (h : Fy X A w cc n own d) (dd : Dc cc pc .gt tgt pc') (kt : y < x → JX X A w es n tgt L st σ c9 s9) (kf : ¬ (y < x) → JX X A w es n pc' L st σ c9 s9) : JX X A w es n pc L (.int y :: .int x :: st) σ c9 s9 := by
  obtain ⟨p, l, e, R, s, m, args, below, meth, c, Q⟩ := X
  obtain ⟨hx, hb, hml, ho, hts, hlk, hR, hK, hW⟩ := h
  obtain ⟨off, hd, ht, rfl⟩ := dd
  intro H locs ls hH hS hl
  exact lv_icmp_gt hx hb hd ht (fun q => kt q H locs ls hH hS hl) (fun q => kf q H locs ls hH hS hl)
theorem yx_icmp_le {x y : Int32} (h : Fy X A w cc n own d) (dd : Dc cc pc .le tgt pc') (kt : x ≤ y → JX X A w es n tgt L st σ c9 s9) (kf : ¬ (x ≤ y) → JX X A w es n pc' L st σ c9 s9) : JX X A w es n pc L (.int y :: .int x :: st) σ c9 s9 := by
  obtain ⟨p, l, e, R, s, m, args, below, meth, c, Q⟩ := X
  obtain ⟨hx, hb, hml, ho, hts, hlk, hR, hK, hW⟩ := h
  obtain ⟨off, hd, ht, rfl⟩ := dd
  intro H locs ls hH hS hl
  exact lv_icmp_le hx hb hd ht (fun q => kt q H locs ls hH hS hl) (fun q => kf q H locs ls hH hS hl)
theorem yx_ifN_eq {a : Nat} (h : Fy X A w cc n own d) (dd : Dz cc pc .eq tgt pc') (ha : a < 2 ^ 31) (kt : a = 0 → JX X A w es n tgt L st σ c9 s9) (kf : a ≠ 0 → JX X A w es n pc' L st σ c9 s9) : JX X A w es n pc L (.int (nI a) :: st) σ c9 s9 := by
  exact yx_if_eq h dd (fun q => kt ((nI0i ha).1.mp q)) (fun q => kf (fun z => q ((nI0i ha).1.mpr z)))
theorem yx_ifN_ne {a : Nat} (h : Fy X A w cc n own d) (dd : Dz cc pc .ne tgt pc') (ha : a < 2 ^ 31) (kt : a ≠ 0 → JX X A w es n tgt L st σ c9 s9) (kf : a = 0 → JX X A w es n pc' L st σ c9 s9) : JX X A w es n pc L (.int (nI a) :: st) σ c9 s9 := by
  exact yx_if_ne h dd (fun q => kt (fun z => q ((nI0i ha).1.mpr z))) (fun q => kf ((nI0i ha).1.mp q))
theorem yx_ifN_gt {a : Nat} (h : Fy X A w cc n own d) (dd : Dz cc pc .gt tgt pc') (ha : a < 2 ^ 31) (kt : 0 < a → JX X A w es n tgt L st σ c9 s9) (kf : a = 0 → JX X A w es n pc' L st σ c9 s9) : JX X A w es n pc L (.int (nI a) :: st) σ c9 s9 := by
  exact yx_if_gt h dd (fun q => kt ((nI0i ha).2.2.2.1.mp q)) (fun q => kf (Nat.eq_zero_of_not_pos (fun z => q ((nI0i ha).2.2.2.1.mpr z))))
theorem yx_ifN_le {a : Nat} (h : Fy X A w cc n own d) (dd : Dz cc pc .le tgt pc') (ha : a < 2 ^ 31) (kt : a = 0 → JX X A w es n tgt L st σ c9 s9) (kf : 0 < a → JX X A w es n pc' L st σ c9 s9) : JX X A w es n pc L (.int (nI a) :: st) σ c9 s9 := by
  exact yx_if_le h dd (fun q => kt ((nI0i ha).2.2.2.2.mp q)) (fun q => kf (Nat.pos_of_ne_zero (fun z => q ((nI0i ha).2.2.2.2.mpr z))))
theorem yx_ifN_lt {a : Nat} (h : Fy X A w cc n own d) (dd : Dz cc pc .lt tgt pc') (ha : a < 2 ^ 31) (kf : JX X A w es n pc' L st σ c9 s9) : JX X A w es n pc L (.int (nI a) :: st) σ c9 s9 := by
  exact yx_if_lt h dd (fun q => absurd ((nI0i ha).2.1.mp q) id) (fun _ => kf)
theorem yx_ifN_ge {a : Nat} (h : Fy X A w cc n own d) (dd : Dz cc pc .ge tgt pc') (ha : a < 2 ^ 31) (kt : JX X A w es n tgt L st σ c9 s9) : JX X A w es n pc L (.int (nI a) :: st) σ c9 s9 := by
  exact yx_if_ge h dd (fun _ => kt) (fun q => absurd ((nI0i ha).2.2.1.mpr trivial) q)
theorem yx_ifB_eq {p : Bool} (h : Fy X A w cc n own d) (dd : Dz cc pc .eq tgt pc') (kt : p = false → JX X A w es n tgt L st σ c9 s9) (kf : p = true → JX X A w es n pc' L st σ c9 s9) : JX X A w es n pc L (.int (b2i p) :: st) σ c9 s9 := by
  exact yx_if_eq h dd (fun q => kt (b2i_0.mp q)) (fun q => kf (by cases p; exact absurd rfl q; rfl))
theorem yx_ifB_ne {p : Bool} (h : Fy X A w cc n own d) (dd : Dz cc pc .ne tgt pc') (kt : p = true → JX X A w es n tgt L st σ c9 s9) (kf : p = false → JX X A w es n pc' L st σ c9 s9) : JX X A w es n pc L (.int (b2i p) :: st) σ c9 s9 := by
  exact yx_if_ne h dd (fun q => kt (by cases p; exact absurd rfl q; rfl)) (fun q => kf (b2i_0.mp q))
theorem yx_icmpN_eq {a b : Nat} (h : Fy X A w cc n own d) (dd : Dc cc pc .eq tgt pc') (ha : a < 2 ^ 31) (hb : b < 2 ^ 31) (kt : a = b → JX X A w es n tgt L st σ c9 s9) (kf : a ≠ b → JX X A w es n pc' L st σ c9 s9) : JX X A w es n pc L (.int (nI b) :: .int (nI a) :: st) σ c9 s9 := by
  exact yx_icmp_eq h dd (fun q => kt ((nI_eq ha hb).mp q)) (fun q => kf (by have t : ¬ (a = b) := fun z => q ((nI_eq ha hb).mpr z); omega))
theorem yx_icmpN_ne {a b : Nat} (h : Fy X A w cc n own d) (dd : Dc cc pc .ne tgt pc') (ha : a < 2 ^ 31) (hb : b < 2 ^ 31) (kt : a ≠ b → JX X A w es n tgt L st σ c9 s9) (kf : a = b → JX X A w es n pc' L st σ c9 s9) : JX X A w es n pc L (.int (nI b) :: .int (nI a) :: st) σ c9 s9 := by
  exact yx_icmp_ne h dd (fun q => kt (fun z => q ((nI_eq ha hb).mpr z))) (fun q => kf ((nI_eq ha hb).mp q))
theorem yx_icmpN_lt {a b : Nat} (h : Fy X A w cc n own d) (dd : Dc cc pc .lt tgt pc') (ha : a < 2 ^ 31) (hb : b < 2 ^ 31) (kt : a < b → JX X A w es n tgt L st σ c9 s9) (kf : b ≤ a → JX X A w es n pc' L st σ c9 s9) : JX X A w es n pc L (.int (nI b) :: .int (nI a) :: st) σ c9 s9 := by
  exact yx_icmp_lt h dd (fun q => kt ((nI_ltI ha hb).mp q)) (fun q => kf (by have t : ¬ (a < b) := fun z => q ((nI_ltI ha hb).mpr z); omega))
theorem yx_icmpN_ge {a b : Nat} (h : Fy X A w cc n own d) (dd : Dc cc pc .ge tgt pc') (ha : a < 2 ^ 31) (hb : b < 2 ^ 31) (kt : b ≤ a → JX X A w es n tgt L st σ c9 s9) (kf : a < b → JX X A w es n pc' L st σ c9 s9) : JX X A w es n pc L (.int (nI b) :: .int (nI a) :: st) σ c9 s9 := by
  exact yx_icmp_ge h dd (fun q => kt ((nI_leI hb ha).mp q)) (fun q => kf (by have t : ¬ (b ≤ a) := fun z => q ((nI_leI hb ha).mpr z); omega))
theorem yx_icmpN_gt {a b : Nat} (h : Fy X A w cc n own d) (dd : Dc cc pc .gt tgt pc') (ha : a < 2 ^ 31) (hb : b < 2 ^ 31) (kt : b < a → JX X A w es n tgt L st σ c9 s9) (kf : a ≤ b → JX X A w es n pc' L st σ c9 s9) : JX X A w es n pc L (.int (nI b) :: .int (nI a) :: st) σ c9 s9 := by
  exact yx_icmp_gt h dd (fun q => kt ((nI_ltI hb ha).mp q)) (fun q => kf (by have t : ¬ (b < a) := fun z => q ((nI_ltI hb ha).mpr z); omega))
theorem yx_icmpN_le {a b : Nat} (h : Fy X A w cc n own d) (dd : Dc cc pc .le tgt pc') (ha : a < 2 ^ 31) (hb : b < 2 ^ 31) (kt : a ≤ b → JX X A w es n tgt L st σ c9 s9) (kf : b < a → JX X A w es n pc' L st σ c9 s9) : JX X A w es n pc L (.int (nI b) :: .int (nI a) :: st) σ c9 s9 := by
  exact yx_icmp_le h dd (fun q => kt ((nI_leI ha hb).mp q)) (fun q => kf (by have t : ¬ (a ≤ b) := fun z => q ((nI_leI ha hb).mpr z); omega))
theorem yx_goto  (h : Fy X A w cc n own d) (dd : Dg cc pc tgt) (k : JX X A w es n tgt L st σ c9 s9) : JX X A w es n pc L (st) σ c9 s9 := by
  obtain ⟨p, l, e, R, s, m, args, below, meth, c, Q⟩ := X
  obtain ⟨hx, hb, hml, ho, hts, hlk, hR, hK, hW⟩ := h
  obtain ⟨off, hd, ht⟩ := dd
  intro H locs ls hH hS hl
  exact lv_goto hx hb hd ht (k H locs ls hH hS hl)
end JR
/-! returns -/
section JE
variable {X : GX} {w : Wd} {es : va_W} {cc : ByteArray} {n pc pc' d : Nat} {own : String} {L : List (Nat × Value)} {σ : Mem} {P : Mem → Prop}
theorem yx_iret {v : Int32} {v' : Option Value} (h : Fy X (wA w) w cc n own d) (hQ : Qx X w (some .int) v' P) (dd : Dx cc pc .ireturn 1 pc') (hv : v' = some (.int v)) (hP : P σ) : JX X (wA w) w es n pc L [.int v] σ 0 0 := by
  subst hv
  obtain ⟨p, l, e, R, s, m, args, below, meth, c, Q⟩ := X
  obtain ⟨hx, hb, hml, ho, hts, hlk, hR, hK, hW⟩ := h
  obtain ⟨hq, hr⟩ := hQ
  intro H locs ls hH hS hl
  simp only at hx hb hml ho hts hlk hR hK hq hr hS ⊢
  rw [hq]
  exact W.iret hx hb hr (fun t ht hW => ⟨⟨rfl, σ, hP, by rw [ht]; exact hH.1⟩, hS.F ht⟩) hS.2.2 dd.1 hlk
theorem yx_zret {v : Int32} {v' : Option Value} {ty : FieldType} (h : Fy X (wA w) w cc n own d) (hQ : Qx X w (some ty) v' P) (dd : Dx cc pc .ireturn 1 pc') (hn : narrow ty (.int v) = .int v) (hv : v' = some (.int v)) (hP : P σ) : JX X (wA w) w es n pc L [.int v] σ 0 0 := by
  subst hv
  obtain ⟨p, l, e, R, s, m, args, below, meth, c, Q⟩ := X
  obtain ⟨hx, hb, hml, ho, hts, hlk, hR, hK, hW⟩ := h
  obtain ⟨hq, hr⟩ := hQ
  intro H locs ls hH hS hl
  simp only at hx hb hml ho hts hlk hR hK hq hr hS ⊢
  rw [hq]
  exact W.zret hx hb hr hn (fun t ht hW => ⟨⟨rfl, σ, hP, by rw [ht]; exact hH.1⟩, hS.F ht⟩) hS.2.2 dd.1 hlk
end JE
/-! contracts over arrays -/
def MCX (l : Launch) (w : Wd) (es : va_W) (q : Mq) (d : Nat) (av : List Value) (σ : Mem) (v : Option Value) (P : Mem → Prop) : Prop :=
  Met l q.1 (wsq q) (rmN d) (fun a U => a = av.toArray ∧ EX w σ es U.heap ∧ Kc w U) (QcOf w v P) 0 0 (wA w)
theorem MCX.of {l : Launch} {w : Wd} {es : va_W} {q : Mq} {d : Nat} {av : List Value} {σ : Mem} {v : Option Value} {P : Mem → Prop} (hW : Wi w) (hpl : plainName q.1.cls = true) (hn : (lg_sl av).length ≤ q.2.2.1)
    (body : ∀ X : GX, Fy X (wA w) w q.2.1 q.2.2.1 q.1.cls d → Qx X w q.2.2.2 v P → JX X (wA w) w es q.2.2.1 0 (lv_args 0 av) [] σ 0 0) : MCX l w es q d av σ v P := by
  refine Met.ofW (cc := q.2.1) (maxL := q.2.2.1) (ret := q.2.2.2) hpl rfl ?_
  intro p e s m args below meth c s₁ B hml hv
  obtain ⟨rfl, hP, hK⟩ := hv
  have hts := atoms_spec (ws := wsq q) B.pre
  have h := body (p, l, e, rmN d, s, m, av.toArray, below, meth, c, MQ below (QcOf w v P) av.toArray s 0 0 (wA w))
    ⟨B.exec, B.bytes, hml, findClass_of_methodNamed B.named, fun c hc hg => hts c (List.mem_cons_of_mem _ (List.mem_filter.mpr ⟨hc, hg⟩)), B.notSynchronized, ⟨Nat.le_refl _, Nat.le_refl _⟩, hK, hW, fun _ h => h⟩ ⟨rfl, B.returns⟩
  have hl := lv_entry av (n := q.2.2.1) hn
  rw [lg_entry_eq]
  exact h s.heap [] _ hP va_S.rf hl
theorem MC.ofX {l : Launch} {w : Wd} {q : Mq} {d : Nat} {av : List Value} {σ : Mem} {v : Option Value} {P : Mem → Prop} (hW : Wi w) (hpl : plainName q.1.cls = true) (hn : (lg_sl av).length ≤ q.2.2.1)
    (body : ∀ X : GX, Fy X (wA w) w q.2.1 q.2.2.1 q.1.cls d → Qx X w q.2.2.2 v P → JX X (wA w) w [] q.2.2.1 0 (lv_args 0 av) [] σ 0 0) : MC l w q d av σ v P := by
  refine Met.ofW (cc := q.2.1) (maxL := q.2.2.1) (ret := q.2.2.2) hpl rfl ?_
  intro p e s m args below meth c s₁ B hml hv
  obtain ⟨rfl, hP, hK⟩ := hv
  have hts := atoms_spec (ws := wsq q) B.pre
  have h := body (p, l, e, rmN d, s, m, av.toArray, below, meth, c, MQ below (QcOf w v P) av.toArray s 0 0 (wA w))
    ⟨B.exec, B.bytes, hml, findClass_of_methodNamed B.named, fun c hc hg => hts c (List.mem_cons_of_mem _ (List.mem_filter.mpr ⟨hc, hg⟩)), B.notSynchronized, ⟨Nat.le_refl _, Nat.le_refl _⟩, hK, hW, fun _ h => h⟩ ⟨rfl, B.returns⟩
  have hl := lv_entry av (n := q.2.2.1) hn
  rw [lg_entry_eq]
  exact h s.heap [] _ ⟨hP, fun k q h => (by rw [List.getElem?_nil] at h; cases h)⟩ va_S.rf hl
section JC
variable {X : GX} {A : Nat → Prop} {w : Wd} {es : va_W} {cc : ByteArray} {n pc pc' d c9 s9 : Nat} {own : String} {L : List (Nat × Value)} {st : List Value} {σ : Mem}
theorem mcx_blind {av : List Value} : FrameBlind (fun a U => a = av.toArray ∧ EX w σ es U.heap ∧ Kc w U) := fun _ _ _ _ q => ⟨q.1, q.2.1, q.2.2.blind⟩
/-- behind a call -/
theorem yx_back {p : Program} {l : Launch} {e : Env} {R : Room} {s : State} {m : MethodId} {args : Array Value} {below : List Frame} {meth : Method} {c : Code} {H : Heap} {locs : List Loc} {Q : State → Prop} {v : Option Value} {P : Mem → Prop} {ls : Array Slot} {st0 rest : List Value} {a : Array Value} (hA : ∀ q, wA w q → A q) (hE : DX w es) (hI : EX w σ es H) (hr : va_Run p l e R s m args below meth c H locs c9 s9 0 0 (F0 m pc ls st0) rest (QcOf w v P a) (wA w)) (hS : va_S A s.heap H locs)
    (kk : ∀ (σ' : Mem) (H1 : Heap) (locs1 : List Loc), P σ' → EX w σ' es H1 → va_S A s.heap H1 locs1 → W p l e R s m args below meth c H1 locs1 c9 s9 Q (F0 m (pc + 3) ls (v.toList ++ rest))) : W p l e R s m args below meth c H locs c9 s9 Q (F0 m pc ls st0) := by
  intro T hT X
  obtain ⟨v', st₀, t, T', L9, h0, X', hL, e1, e2, ⟨⟨hv, σ', hPσ, hH1⟩, hz, hk⟩, stp⟩ := hr T hT X
  cases hv
  rw [h0] at hz hk
  obtain ⟨t2, a1, b1⟩ := kk σ' T'.heap (locs ++ L9) hPσ ⟨by rw [e1]; exact hH1, hI.2.kept fun k q hq => by rw [e1]; exact hk _ (hI.2 k q hq).lt (hE.1 k q hq)⟩
    ⟨Nat.le_trans hS.1 (by rw [e1]; exact hz), fun q h1 h2 => by rw [e1, hk q (Nat.lt_of_lt_of_le h1 hS.1) (fun z => h2 (hA q z))]; exact hS.2.1 q h1 h2, fun q hq => by
      rcases List.mem_append.mp hq with h | h
      · exact hS.2.2 q h
      · exact hA _ (hL q h)⟩ T' rfl X'
  exact ⟨t2, stp t2 a1, b1⟩
/-- a call of a world's object -/
theorem yx_cv {q : Mq} {d' idx np i ci : Nat} {As rest : List Value} {v : Option Value} {P : Mem → Prop} {fs : List (Nat ⊕ Nat)} (h : Fy X A w cc n own d) (hE : DX w es) (hkn : c9 ≤ X.2.2.2.1.cells ∧ s9 ≤ X.2.2.2.1.slots) (hM : MC X.2.1 w q d' (.ref (w.1 i) :: As) σ v P) (hq : LmV q np) (hlk : Cond.methodLink own idx q.1 ∈ lw_tbl) (hd : d' < d) (hmax : q.2.2.1 < 18)
    (hs : Sc i (.inl (ci, fs))) (hcl : (vwCl[ci]?).map (fun z => z.1) = some q.1.cls) (hn : As.length = np) (hst : st = As.reverse ++ .ref (w.1 i) :: rest) (hrest : Nat.ble (rest.map fun v => v.category).sum 8 = true) (dd : Dx cc pc (.invokevirtual idx) 3 pc')
    (k : ∀ σ', P σ' → JX X A w es n pc' L (v.toList ++ rest) σ' c9 s9) : JX X A w es n pc L st σ c9 s9 := by
  subst hst
  obtain ⟨p, l, e, R, s, m, args, below, meth, c, Q⟩ := X
  obtain ⟨hx, hb, hml, ho, hts, hlks, ⟨hRf, hRl⟩, hK, hW, hA⟩ := h
  obtain ⟨hdd, rfl⟩ := dd
  obtain ⟨hc1, hc2, hc3, hc4, hc5, hc6, hc7⟩ := hq
  intro H locs ls hH hS hl
  simp only at hx hb hml ho hts hlks hRf hRl hK hS hkn
  obtain ⟨C, hC⟩ : ∃ C, vwCl[ci]? = some C := by
    cases hz : vwCl[ci]? with
    | none => rw [hz] at hcl; cases hcl
    | some C => exact ⟨C, rfl⟩
  have hC1 : C.1 = q.1.cls := by rw [hC] at hcl; exact Option.some.inj hcl
  have hcell := va_recv hK hH.1 (ci := ci) (q0 := i) (fs := fs.map (svv w σ)) hC (by rw [wsOf_get hs.1, hs.2]; rfl)
  rw [hC1] at hcell
  exact yx_back hA hE hH (va_runV (Ts := lw_tbl.filter goodWord) (C := q.1.cls) (n := np) ⟨hx, hb, hml, ho, fun c hc => hts c (List.mem_filter.mp hc).1 (List.mem_filter.mp hc).2⟩ hM
      ⟨⟨rfl, rfl, (by show d' + 1 ≤ R.frames; omega), by show 8 + (q.2.2.1 + 11) + 36 * d' ≤ R.locals; omega, wsq_ok hts hc1, List.mem_cons_self, hts _ hc1 rfl, hts _ hc4 rfl, ⟨hc5, hc6⟩, sq_len hc7, hts _ hlk rfl⟩, hts _ hc2 rfl, hts _ hc3 rfl⟩
      ⟨mc_blind, hcell, fun U hU hWU => ⟨rfl, by rw [hU]; exact hH.1, va_K.moved hWU.alike hK⟩⟩ rfl hn hl.1 rfl (lv_room (Nat.le_of_ble_eq_true hrest)) hdd hkn) hS
    (fun σ' H1 locs1 hP hH1 hS1 => k σ' hP H1 locs1 ls hH1 hS1 hl)
theorem yx_csB {q : Mq} {d' idx np : Nat} {As rest : List Value} {v : Option Value} {P : Mem → Prop} {Pr : Array Value → State → Prop} (h : Fy X A w cc n own d) (hE : DX w es) (hkn : c9 ≤ X.2.2.2.1.cells ∧ s9 ≤ X.2.2.2.1.slots) (hM : Met X.2.1 q.1 (wsq q) (rmN d') Pr (QcOf w v P) 0 0 (wA w)) (hbl : FrameBlind Pr) (hPr : ∀ U : State, EX w σ es U.heap → Kc w U → Pr As.toArray U) (hq : LmS q np) (hlk : Cond.methodLink own idx q.1 ∈ lw_tbl) (hd : d' < d) (hmax : q.2.2.1 < 18)
    (hn : As.length = np) (hst : st = As.reverse ++ rest) (hrest : Nat.ble (rest.map fun v => v.category).sum 8 = true) (dd : Dx cc pc (.invokestatic idx) 3 pc')
    (k : ∀ σ', P σ' → JX X A w es n pc' L (v.toList ++ rest) σ' c9 s9) : JX X A w es n pc L st σ c9 s9 := by
  subst hst
  obtain ⟨p, l, e, R, s, m, args, below, meth, c, Q⟩ := X
  obtain ⟨hx, hb, hml, ho, hts, hlks, ⟨hRf, hRl⟩, hK, hW, hA⟩ := h
  obtain ⟨hdd, rfl⟩ := dd
  obtain ⟨hc1, hc2, hc4, hc5, hc6, hc7⟩ := hq
  intro H locs ls hH hS hl
  simp only at hx hb hml ho hts hlks hRf hRl hK hS hkn
  exact yx_back hA hE hH (va_runS (Ts := lw_tbl.filter goodWord) (n := np) ⟨hx, hb, hml, ho, fun c hc => hts c (List.mem_filter.mp hc).1 (List.mem_filter.mp hc).2⟩ hM
      ⟨⟨rfl, rfl, (by show d' + 1 ≤ R.frames; omega), by show 8 + (q.2.2.1 + 11) + 36 * d' ≤ R.locals; omega, wsq_ok hts hc1, List.mem_cons_self, hts _ hc1 rfl, hts _ hc4 rfl, ⟨hc5, hc6⟩, sq_len hc7, hts _ hlk rfl⟩, hts _ hc2 rfl⟩
      ⟨hbl, fun U hU hWU => hPr U (by rw [hU]; exact hH) (va_K.moved hWU.alike hK)⟩ rfl hn hl.1 rfl (lv_room (Nat.le_of_ble_eq_true hrest)) hdd hkn) hS
    (fun σ' H1 locs1 hP hH1 hS1 => k σ' hP H1 locs1 ls hH1 hS1 hl)
theorem yx_cs {q : Mq} {d' idx np : Nat} {As rest : List Value} {v : Option Value} {P : Mem → Prop} (h : Fy X A w cc n own d) (hE : DX w es) (hkn : c9 ≤ X.2.2.2.1.cells ∧ s9 ≤ X.2.2.2.1.slots) (hM : MC X.2.1 w q d' As σ v P) (hq : LmS q np) (hlk : Cond.methodLink own idx q.1 ∈ lw_tbl) (hd : d' < d) (hmax : q.2.2.1 < 18)
    (hn : As.length = np) (hst : st = As.reverse ++ rest) (hrest : Nat.ble (rest.map fun v => v.category).sum 8 = true) (dd : Dx cc pc (.invokestatic idx) 3 pc')
    (k : ∀ σ', P σ' → JX X A w es n pc' L (v.toList ++ rest) σ' c9 s9) : JX X A w es n pc L st σ c9 s9 :=
  yx_csB h hE hkn hM mc_blind (fun U h1 h2 => ⟨rfl, h1.1, h2⟩) hq hlk hd hmax hn hst hrest dd k
/-- .. that reads arrays -/
theorem yx_csx {q : Mq} {d' idx np : Nat} {As rest : List Value} {v : Option Value} {P : Mem → Prop} (h : Fy X A w cc n own d) (hE : DX w es) (hkn : c9 ≤ X.2.2.2.1.cells ∧ s9 ≤ X.2.2.2.1.slots) (hM : MCX X.2.1 w es q d' As σ v P) (hq : LmS q np) (hlk : Cond.methodLink own idx q.1 ∈ lw_tbl) (hd : d' < d) (hmax : q.2.2.1 < 18)
    (hn : As.length = np) (hst : st = As.reverse ++ rest) (hrest : Nat.ble (rest.map fun v => v.category).sum 8 = true) (dd : Dx cc pc (.invokestatic idx) 3 pc')
    (k : ∀ σ', P σ' → JX X A w es n pc' L (v.toList ++ rest) σ' c9 s9) : JX X A w es n pc L st σ c9 s9 :=
  yx_csB h hE hkn hM mcx_blind (fun U h1 h2 => ⟨rfl, h1, h2⟩) hq hlk hd hmax hn hst hrest dd k
/-- .. that leaves the memory as it was -/
theorem yx_csp {q : Mq} {d' idx np : Nat} {As rest : List Value} {v : Option Value} (h : Fy X A w cc n own d) (hE : DX w es) (hkn : c9 ≤ X.2.2.2.1.cells ∧ s9 ≤ X.2.2.2.1.slots) (hM : MC X.2.1 w q d' As σ v (fun σ' => σ' = σ)) (hq : LmS q np) (hlk : Cond.methodLink own idx q.1 ∈ lw_tbl) (hd : d' < d) (hmax : q.2.2.1 < 18)
    (hn : As.length = np) (hst : st = As.reverse ++ rest) (hrest : Nat.ble (rest.map fun v => v.category).sum 8 = true) (dd : Dx cc pc (.invokestatic idx) 3 pc')
    (k : JX X A w es n pc' L (v.toList ++ rest) σ c9 s9) : JX X A w es n pc L st σ c9 s9 :=
  yx_cs h hE hkn hM hq hlk hd hmax hn hst hrest dd (fun σ' e => by rw [e]; exact k)
theorem yx_csxp {q : Mq} {d' idx np : Nat} {As rest : List Value} {v : Option Value} (h : Fy X A w cc n own d) (hE : DX w es) (hkn : c9 ≤ X.2.2.2.1.cells ∧ s9 ≤ X.2.2.2.1.slots) (hM : MCX X.2.1 w es q d' As σ v (fun σ' => σ' = σ)) (hq : LmS q np) (hlk : Cond.methodLink own idx q.1 ∈ lw_tbl) (hd : d' < d) (hmax : q.2.2.1 < 18)
    (hn : As.length = np) (hst : st = As.reverse ++ rest) (hrest : Nat.ble (rest.map fun v => v.category).sum 8 = true) (dd : Dx cc pc (.invokestatic idx) 3 pc')
    (k : JX X A w es n pc' L (v.toList ++ rest) σ c9 s9) : JX X A w es n pc L st σ c9 s9 :=
  yx_csx h hE hkn hM hq hlk hd hmax hn hst hrest dd (fun σ' e => by rw [e]; exact k)
/-! arrays beside the world -/
theorem yx_alen {q0 a Z : Nat} {f : Nat → Int32} (h : Fy X A w cc n own d) (dd : Dx cc pc .arraylength 1 pc') (he : es[q0]? = some (a, .inl (w.2.2.1.1, Z, .inl f))) (k : JX X A w es n pc' L (.int (nI Z) :: st) σ c9 s9) : JX X A w es n pc L (.ref a :: st) σ c9 s9 := by
  obtain ⟨p, l, e, R, s, m, args, below, meth, c, Q⟩ := X
  obtain ⟨hx, hb, hml, ho, hts, hlk, hR, hK, hW⟩ := h
  obtain ⟨hd, rfl⟩ := dd
  intro H locs ls hH hS hl
  exact va_alen hx hb hK hH.2 q0 0 (x := (Z, .inl f)) he (ty := .int) rfl rfl hd (k H locs ls hH hS hl)
theorem yx_iald {q0 a Z j : Nat} {f : Nat → Int32} (h : Fy X A w cc n own d) (dd : Dx cc pc .iaload 1 pc') (he : es[q0]? = some (a, .inl (w.2.2.1.1, Z, .inl f))) (hj : j < Z) (hZ : Z < 4000) (k : JX X A w es n pc' L (.int (f j) :: st) σ c9 s9) : JX X A w es n pc L (.int (nI j) :: .ref a :: st) σ c9 s9 := by
  obtain ⟨p, l, e, R, s, m, args, below, meth, c, Q⟩ := X
  obtain ⟨hx, hb, hml, ho, hts, hlk, hR, hK, hW⟩ := h
  obtain ⟨hd, rfl⟩ := dd
  intro H locs ls hH hS hl
  exact va_iald hx hb hK hH.2 q0 0 (f := f) he rfl (vp_in_nI hj (by omega)) hd (by simp only [nI_clamp (show j < 2 ^ 31 by omega)]; exact k H locs ls hH hS hl)
theorem DX.dd (hW : Wi w) (hE : DX w es) (hA : ∀ q, wA w q → A q) (hAe : ∀ (k : Nat) (q : Nat × va_E), es[k]? = some q → A q.1) : va_D A (wsOf w σ ++ es) := by
  have hlen : (wsOf w σ).length = 131 := by simp [wsOf]
  refine ⟨fun i j p q hi hj hpq => ?_, fun k q hk => ?_⟩
  · by_cases ci : i < 131
    · rw [List.getElem?_append_left (by omega)] at hi
      obtain ⟨h1, rfl⟩ := wsOf_inv hi
      by_cases cj : j < 131
      · rw [List.getElem?_append_left (by omega)] at hj
        obtain ⟨h2, rfl⟩ := wsOf_inv hj
        exact hW i j h1 h2 hpq
      · rw [List.getElem?_append_right (by omega)] at hj
        exact absurd ⟨i, h1, hpq.symm⟩ (hE.1 _ q hj)
    · rw [List.getElem?_append_right (by omega)] at hi
      by_cases cj : j < 131
      · rw [List.getElem?_append_left (by omega)] at hj
        obtain ⟨h2, rfl⟩ := wsOf_inv hj
        exact absurd ⟨j, h2, hpq⟩ (hE.1 _ p hi)
      · rw [List.getElem?_append_right (by omega)] at hj
        have := hE.2 _ _ p q hi hj hpq
        omega
  · by_cases ck : k < 131
    · rw [List.getElem?_append_left (by omega)] at hk
      obtain ⟨h1, rfl⟩ := wsOf_inv hk
      exact hA _ ⟨k, h1, rfl⟩
    · rw [List.getElem?_append_right (by omega)] at hk
      exact hAe _ q hk
theorem DX.set {q0 : Nat} {p q : Nat × va_E} (hE : DX w es) (hp : es[q0]? = some p) (e : q.1 = p.1) : DX w (es.set q0 q) := by
  have hlt := (List.getElem?_eq_some_iff.mp hp).1
  have key : ∀ (k : Nat) (r : Nat × va_E), (es.set q0 q)[k]? = some r → ∃ r' : Nat × va_E, es[k]? = some r' ∧ r'.1 = r.1 := fun k r hk => by
    by_cases c : q0 = k
    · subst c
      rw [List.getElem?_set_self hlt] at hk
      cases hk
      exact ⟨p, hp, e.symm⟩
    · rw [List.getElem?_set_ne c] at hk
      exact ⟨r, hk, rfl⟩
  refine ⟨fun k r hk => ?_, fun i j r t hi hj hrt => ?_⟩
  · obtain ⟨r', h1, h2⟩ := key k r hk
    rw [← h2]
    exact hE.1 k r' h1
  · obtain ⟨r', h1, h2⟩ := key i r hi
    obtain ⟨t', h3, h4⟩ := key j t hj
    exact hE.2 i j r' t' h1 h3 (by rw [h2, h4, hrt])
theorem EX.both {H : Heap} (h : EX w σ es H) : va_P w.2.1 vwCl (wsOf w σ ++ es) H := fun k q hk => by
  by_cases c : k < (wsOf w σ).length
  · rw [List.getElem?_append_left c] at hk
    exact h.1 k q hk
  · rw [List.getElem?_append_right (by omega)] at hk
    exact h.2 _ q hk
theorem yx_iast {q0 a Z j : Nat} {f : Nat → Int32} {x : Int32} (h : Fy X A w cc n own d) (hE : DX w es) (hAe : ∀ (k : Nat) (q : Nat × va_E), es[k]? = some q → A q.1) (dd : Dx cc pc .iastore 1 pc') (he : es[q0]? = some (a, .inl (w.2.2.1.1, Z, .inl f))) (hj : j < Z) (hZ : Z < 4000)
    (k : JX X A w (es.set q0 (a, .inl (w.2.2.1.1, Z, .inl (upd f j x)))) n pc' L st σ c9 s9) : JX X A w es n pc L (.int x :: .int (nI j) :: .ref a :: st) σ c9 s9 := by
  obtain ⟨p, l, e, R, s, m, args, below, meth, c, Q⟩ := X
  obtain ⟨hx, hb, hml, ho, hts, hlk, hR, hK, hW, hA⟩ := h
  obtain ⟨hd, rfl⟩ := dd
  intro H locs ls hH hS hl
  have hlen : (wsOf w σ).length = 131 := by simp [wsOf]
  have e1 : (nI j).toNatClampNeg = j := nI_clamp (by omega)
  exact va_iast hx hb hK hH.both (DX.dd hW hE hA hAe) hS (131 + q0) 0 (f := f) (by rw [List.getElem?_append_right (by omega), hlen, Nat.add_sub_cancel_left]; exact he) rfl (vp_in_nI hj (by omega)) hd
    (fun H1 locs1 hP1 _ hS1 => k H1 locs1 ls (by
      rw [e1, List.set_append_right _ _ (by omega), hlen, Nat.add_sub_cancel_left] at hP1
      exact ⟨va_P.l hP1, va_P.r hP1⟩) hS1 hl)
theorem yx_newa {Z : Nat} (h : Fy X A w cc n own d) (hE : DX w es) (hAe : ∀ (k : Nat) (q : Nat × va_E), es[k]? = some q → A q.1) (hA9 : ∀ q : Nat, X.2.2.2.2.1.heap.size ≤ q → A q) (dd : Dx cc pc (.newarray .int) 2 pc') (hw : Cond.arrayClass .int ∈ lw_tbl) (hZ : Z < 4000) (hcl : c9 + 1 ≤ X.2.2.2.1.cells) (hsl : s9 + Z ≤ X.2.2.2.1.slots)
    (k : ∀ q, DX w (es ++ [(q, .inl (w.2.2.1.1, Z, .inl fun _ => nI 0))]) → A q → JX X A w (es ++ [(q, .inl (w.2.2.1.1, Z, .inl fun _ => nI 0))]) n pc' L (.ref q :: st) σ (c9 + 1) (s9 + Z)) : JX X A w es n pc L (.int (nI Z) :: st) σ c9 s9 := by
  obtain ⟨p, l, e, R, s, m, args, below, meth, c, Q⟩ := X
  obtain ⟨hx, hb, hml, ho, hts, hlk, hR, hK, hW, hA⟩ := h
  obtain ⟨hd, rfl⟩ := dd
  have hlen : (wsOf w σ).length = 131 := by simp [wsOf]
  have e1 : (nI Z).toNatClampNeg = Z := nI_clamp (by omega)
  intro H locs ls hH hS hl
  have hcA : s.vm.findClass ("[" ++ FieldType.int.toString) = some w.2.2.1.1 := (hK.2 0 _ rfl).2
  refine va_newa hx hb (atype := .int) (ty := .int) (hts _ hw rfl) rfl hK hH.both (DX.dd hW hE hA hAe) hS hA9 (N' := Z) (a0 := (Z, .inl fun _ => nI 0)) (fun cA => by rw [vp_cell_i]; rfl) (nI_pos (by omega)) e1 (by show Z * _ ≤ _; simp only [componentBytes]; omega) hcl hsl hd (fun q cB H1 hK1 hP1 hD1 hS1 => ?_)
  have hcB : cB = w.2.2.1.1 := by
    have h2 := (hK1.2 (wT w).length (cB, .int) (by simp)).2
    exact Option.some.inj (h2.symm.trans hcA)
  subst hcB
  rw [List.append_assoc] at hP1 hD1
  have hq : ∀ k' : Nat, (wsOf w σ ++ (es ++ [(q, (.inl (w.2.2.1.1, Z, .inl fun _ => nI 0) : va_E))]))[131 + k']? = (es ++ [(q, .inl (w.2.2.1.1, Z, .inl fun _ => nI 0))])[k']? := fun k' => by
    rw [List.getElem?_append_right (by omega), hlen, Nat.add_sub_cancel_left]
  refine k q ⟨fun k' r hr => ?_, fun i j r t hi hj hrt => ?_⟩ ?_ H1 locs ls ⟨va_P.l hP1, va_P.r hP1⟩ hS1 hl
  · rintro ⟨i, hi, hri⟩
    have h1 : (wsOf w σ ++ (es ++ [(q, (.inl (w.2.2.1.1, Z, .inl fun _ => nI 0) : va_E))]))[i]? = some (w.1 i, cE w σ (sh i)) := by
      rw [List.getElem?_append_left (by omega)]
      exact wsOf_get hi
    have := hD1.1 _ _ _ _ ((hq k').trans hr) h1 hri
    omega
  · have := hD1.1 _ _ _ _ ((hq i).trans hi) ((hq j).trans hj) hrt
    omega
  · exact hD1.2 (131 + es.length) _ (by rw [hq, List.getElem?_append_right (Nat.le_refl _), Nat.sub_self]; rfl)
end JC
/-! the law's script -/
def SX (X : GX) (A : Nat → Prop) (b Lx : Nat) (xs : Nat → Int32) : Prop := va_X b Lx xs X.2.2.2.2.1 X.2.2.2.2.1.heap ∧ b < X.2.2.2.2.1.heap.size ∧ ¬ A b ∧ Lx < 4000
section JS
variable {X : GX} {A : Nat → Prop} {w : Wd} {es : va_W} {cc : ByteArray} {n pc pc' d c9 s9 b Lx : Nat} {xs : Nat → Int32} {own : String} {L : List (Nat × Value)} {st : List Value} {σ : Mem}
theorem yx_sld {i : Nat} (h : Fy X A w cc n own d) (hX : SX X A b Lx xs) (dd : Dx cc pc .iaload 1 pc') (hi : i < Lx) (k : JX X A w es n pc' L (.int (xs i) :: st) σ c9 s9) : JX X A w es n pc L (.int (nI i) :: .ref b :: st) σ c9 s9 := by
  obtain ⟨p, l, e, R, s, m, args, below, meth, c, Q⟩ := X
  obtain ⟨hx, hb, hml, ho, hts, hlk, hR, hK, hW⟩ := h
  obtain ⟨hX, hbl, hAb, hLx⟩ := hX
  obtain ⟨hd, rfl⟩ := dd
  intro H locs ls hH hS hl
  have e1 : (nI i).toNatClampNeg = i := nI_clamp (by omega)
  exact va_sld hx hb hX hbl hAb hS (vp_in_nI hi (by omega)) hd (by rw [e1]; exact k H locs ls hH hS hl)
theorem yx_slen (h : Fy X A w cc n own d) (hX : SX X A b Lx xs) (dd : Dx cc pc .arraylength 1 pc') (k : JX X A w es n pc' L (.int (nI Lx) :: st) σ c9 s9) : JX X A w es n pc L (.ref b :: st) σ c9 s9 := by
  obtain ⟨p, l, e, R, s, m, args, below, meth, c, Q⟩ := X
  obtain ⟨hx, hb, hml, ho, hts, hlk, hR, hK, hW⟩ := h
  obtain ⟨hX, hbl, hAb, hLx⟩ := hX
  obtain ⟨hd, rfl⟩ := dd
  intro H locs ls hH hS hl
  exact va_slen hx hb hX hbl hAb hS hd (k H locs ls hH hS hl)
end JS
