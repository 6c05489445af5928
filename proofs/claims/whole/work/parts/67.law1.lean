/-! THE CLAIM OUT OF ONE WALK OF THE LAW'S BODY. Your part is whole_start (and what it stands on); all else here is the same for every law, but numbers. -/
def R_law : String := "ChosenRelaysLaw"
def lw_P (b : Addr) (xs : List Int32) (args : Array Value) (s : State) : Prop := args = #[.ref b] ∧ s.IntsAt b xs ∧ xs.length ≤ 3072 ∧ (Jvm.Cond.and given_1 narrow_1).before args s = true
def lw_Q (_ : Array Value) (s : State) (o : Outcome) (t : State) : Prop := o = .returned (some (.int 1)) ∧ Framed s o t [] 600000 7302250
def lw_Z (below : List Frame) (a : Array Value) (s : State) : State → Prop := fun t => ∃ o, t.status = .running ∧ Ended t below o ∧ lw_Q a s o t
/-- the law's own end, with 1 on the stack, nothing written that was there before, its room as the claim has it -/
theorem lw_ret {p : Program} {l : Launch} {e : Env} {s : State} {m : MethodId} {below : List Frame} {meth : Method} {c : Code} {b : Nat} (hx : p.tables.exec = Jvm.exec) (hb : c.code = code) (hr : meth.sig.returnType = ret) (hlocks : meth.locks = false) {pc : Nat} {H : Heap} {ls : Array Slot} (hdg : decode code pc = .ok (.ireturn, 1)) : W p l e room_1 s m #[Value.ref b] below meth c H [] 600000 7302250 (lw_Z below #[Value.ref b] s) (F0 m pc ls [.int 1]) := by
  intro T hT X
  obtain ⟨fs, hret, hrun, hended, hW, hframe⟩ := X.leave (v := some (.int 1)) (hlocks := hlocks) (fun h => by rw [hr] at h; cases h)
  have hmeth' : T.vm.method? m = some meth := X.method'
  refine ⟨T.setFrames fs, ?_, .returned (some (.int 1)), hrun, hended, rfl, ⟨_, rfl⟩, hW, hframe⟩
  jvm_step X.here [X.here.top, hx, hb, hdg, hmeth', hr, ret, narrow_b1]
  (try refine ⟨rfl, ?_⟩); (try refine ⟨rfl, ?_⟩)
  first | (intro acts; rw [hret _ acts rfl rfl rfl]) | rw [hret _ _ rfl rfl rfl]
  exact Steps.refl _
/-- what holds at the law's entry: the machine, the code, the tables' words (any of lw_tbl by 'hts w (by decide +kernel)'), the script of L ints xs at the cell b, what the Statement gives of the start (any of its parts by flat_of_before) -/
def lw_At (p : Program) (s : State) (m : MethodId) (meth : Method) (c : Code) (b L : Nat) (xs : Nat → Int32) : Prop :=
  p.tables.exec = Jvm.exec ∧ c.code = code ∧ meth.sig.returnType = ret ∧ c.maxLocals = 4 ∧ s.vm.findClass R_law = some m.cls ∧ (∀ w ∈ lw_tbl, w.before #[Value.ref b] s = true) ∧ va_X b L xs s s.heap ∧ b < s.heap.size ∧ meth.locks = false ∧ (Jvm.Cond.and given_1 narrow_1).before #[Value.ref b] s = true

/-! the law's own walk: over any ground I of the heap -/
abbrev LY : Type := Program × Launch × Env × State × MethodId × List Frame × Method × Code × Nat
def LJ (Y : LY) (I : Heap → List Loc → Prop) (pc : Nat) (L : List (Nat × Value)) (st : List Value) (k N : Nat) : Prop :=
  ∀ (H : Heap) (locs : List Loc) (ls : Array Slot), I H locs → lv_has ls 4 L →
    W Y.1 Y.2.1 Y.2.2.1 room_1 Y.2.2.2.1 Y.2.2.2.2.1 #[Value.ref Y.2.2.2.2.2.2.2.2] Y.2.2.2.2.2.1 Y.2.2.2.2.2.2.1 Y.2.2.2.2.2.2.2.1 H locs k N (lw_Z Y.2.2.2.2.2.1 #[Value.ref Y.2.2.2.2.2.2.2.2] Y.2.2.2.1) (F0 Y.2.2.2.2.1 pc ls st)
def LF (Y : LY) (Lx : Nat) (xs : Nat → Int32) : Prop := lw_At Y.1 Y.2.2.2.1 Y.2.2.2.2.1 Y.2.2.2.2.2.2.1 Y.2.2.2.2.2.2.2.1 Y.2.2.2.2.2.2.2.2 Lx xs
/-- fresh: made since the law's start -/
def fr9 (s : State) : Nat → Prop := fun q => s.heap.size ≤ q
section LJR
variable {Y : LY} {Lx : Nat} {xs : Nat → Int32} {I : Heap → List Loc → Prop} {pc pc' tgt k N : Nat} {L L' : List (Nat × Value)} {st : List Value}
theorem lj_aload_n {q : Fin 4} {x : Nat} (h : LF Y Lx xs) (dd : Dx cL_law pc (.aload_n q) 1 pc') (j : Nat) (hj : L[j]? = some (q.val, .ref x)) (kk : LJ Y I pc' L (.ref x :: st) k N) : LJ Y I pc L (st) k N := by
  obtain ⟨p, l, e, s, m, below, meth, c, b⟩ := Y
  obtain ⟨hx, hb, hr, hml, ho, hts, hX, hbl, hlk, hgv⟩ := h
  obtain ⟨hd, rfl⟩ := dd
  intro H locs ls hI hl
  exact lv_aload_n hx hb hd rfl (lv_at hl j hj) (kk H locs ls hI hl)
theorem lj_iload_n {q : Fin 4} {x : Int32} (h : LF Y Lx xs) (dd : Dx cL_law pc (.iload_n q) 1 pc') (j : Nat) (hj : L[j]? = some (q.val, .int x)) (kk : LJ Y I pc' L (.int x :: st) k N) : LJ Y I pc L (st) k N := by
  obtain ⟨p, l, e, s, m, below, meth, c, b⟩ := Y
  obtain ⟨hx, hb, hr, hml, ho, hts, hX, hbl, hlk, hgv⟩ := h
  obtain ⟨hd, rfl⟩ := dd
  intro H locs ls hI hl
  exact lv_iload_n hx hb hd rfl (lv_at hl j hj) (kk H locs ls hI hl)
theorem lj_iconst {z : Nat} (h : LF Y Lx xs) (dd : Dx cL_law pc (.iconst (Int.ofNat z)) 1 pc') (hz : z < 100) (kk : LJ Y I pc' L (.int (nI z) :: st) k N) : LJ Y I pc L (st) k N := by
  obtain ⟨p, l, e, s, m, below, meth, c, b⟩ := Y
  obtain ⟨hx, hb, hr, hml, ho, hts, hX, hbl, hlk, hgv⟩ := h
  obtain ⟨hd, rfl⟩ := dd
  intro H locs ls hI hl
  exact lv_iconst hx hb hd (ofInt_nat z (by omega)) (kk H locs ls hI hl)
theorem lj_bipush {z : Nat} (h : LF Y Lx xs) (dd : Dx cL_law pc (.bipush (Int.ofNat z)) 2 pc') (hz : z < 128) (kk : LJ Y I pc' L (.int (nI z) :: st) k N) : LJ Y I pc L (st) k N := by
  obtain ⟨p, l, e, s, m, below, meth, c, b⟩ := Y
  obtain ⟨hx, hb, hr, hml, ho, hts, hX, hbl, hlk, hgv⟩ := h
  obtain ⟨hd, rfl⟩ := dd
  intro H locs ls hI hl
  exact lv_bipush hx hb hd (si8 z hz) (kk H locs ls hI hl)
theorem lj_dup {va : Value} (h : LF Y Lx xs) (dd : Dx cL_law pc (.dup) 1 pc') (hva : va.category = 1) (kk : LJ Y I pc' L (va :: va :: st) k N) : LJ Y I pc L (va :: st) k N := by
  obtain ⟨p, l, e, s, m, below, meth, c, b⟩ := Y
  obtain ⟨hx, hb, hr, hml, ho, hts, hX, hbl, hlk, hgv⟩ := h
  obtain ⟨hd, rfl⟩ := dd
  intro H locs ls hI hl
  exact lv_dup hx hb hd hva (kk H locs ls hI hl)
theorem lj_astore_n {q : Fin 4} {x : Nat} (h : LF Y Lx xs) (dd : Dx cL_law pc (.astore_n q) 1 pc') (hc : cat1 L = true) (hn : q.val < 4) (hL : lset q.val (.ref x) L = L') (kk : LJ Y I pc' L' (st) k N) : LJ Y I pc L (.ref x :: st) k N := by
  obtain ⟨p, l, e, s, m, below, meth, c, b⟩ := Y
  obtain ⟨hx, hb, hr, hml, ho, hts, hX, hbl, hlk, hgv⟩ := h
  obtain ⟨hd, rfl⟩ := dd
  intro H locs ls hI hl
  exact lv_astore_n hx hb hd rfl hl hn rfl (fun ls' hl' => kk H locs ls' hI (by rw [← hL]; exact lset_has hc hl'))
theorem lj_istore_n {q : Fin 4} {x : Int32} (h : LF Y Lx xs) (dd : Dx cL_law pc (.istore_n q) 1 pc') (hc : cat1 L = true) (hn : q.val < 4) (hL : lset q.val (.int x) L = L') (kk : LJ Y I pc' L' (st) k N) : LJ Y I pc L (.int x :: st) k N := by
  obtain ⟨p, l, e, s, m, below, meth, c, b⟩ := Y
  obtain ⟨hx, hb, hr, hml, ho, hts, hX, hbl, hlk, hgv⟩ := h
  obtain ⟨hd, rfl⟩ := dd
  intro H locs ls hI hl
  exact lv_istore_n hx hb hd rfl hl hn rfl (fun ls' hl' => kk H locs ls' hI (by rw [← hL]; exact lset_has hc hl'))
theorem lj_iinc {i a b9 : Nat} (h : LF Y Lx xs) (dd : Dx cL_law pc (.iinc i (Int.ofNat b9)) 3 pc') (j : Nat) (hj : L[j]? = some (i, .int (nI a))) (hc : cat1 L = true) (hn : i < 4) (hb9 : b9 < 100) (hL : lset i (.int (nI (a + b9))) L = L') (kk : LJ Y I pc' L' (st) k N) : LJ Y I pc L (st) k N := by
  obtain ⟨p, l, e, s, m, below, meth, c, b⟩ := Y
  obtain ⟨hx, hb, hr, hml, ho, hts, hX, hbl, hlk, hgv⟩ := h
  obtain ⟨hd, rfl⟩ := dd
  intro H locs ls hI hl
  exact lv_iinc hx hb hd hl (k := j) hj (by rw [ofInt_nat b9 (by omega), nI_add]) hn rfl (fun ls' hl' => kk H locs ls' hI (by rw [← hL]; exact lset_has hc hl'))
theorem lj_iadd {a b9 : Nat} (h : LF Y Lx xs) (dd : Dx cL_law pc (.iadd) 1 pc')  (kk : LJ Y I pc' L (.int (nI (a + b9)) :: st) k N) : LJ Y I pc L (.int (nI b9) :: .int (nI a) :: st) k N := by
  obtain ⟨p, l, e, s, m, below, meth, c, b⟩ := Y
  obtain ⟨hx, hb, hr, hml, ho, hts, hX, hbl, hlk, hgv⟩ := h
  obtain ⟨hd, rfl⟩ := dd
  intro H locs ls hI hl
  exact lv_iadd hx hb hd (by rw [nI_add]; exact kk H locs ls hI hl)
theorem lj_isub {x y : Int32} (h : LF Y Lx xs) (dd : Dx cL_law pc (.isub) 1 pc')  (kk : LJ Y I pc' L (.int (x - y) :: st) k N) : LJ Y I pc L (.int y :: .int x :: st) k N := by
  obtain ⟨p, l, e, s, m, below, meth, c, b⟩ := Y
  obtain ⟨hx, hb, hr, hml, ho, hts, hX, hbl, hlk, hgv⟩ := h
  obtain ⟨hd, rfl⟩ := dd
  intro H locs ls hI hl
  exact lv_isub hx hb hd (kk H locs ls hI hl)
theorem lj_iand {x y : Int32} (h : LF Y Lx xs) (dd : Dx cL_law pc (.iand) 1 pc')  (kk : LJ Y I pc' L (.int (x &&& y) :: st) k N) : LJ Y I pc L (.int y :: .int x :: st) k N := by
  obtain ⟨p, l, e, s, m, below, meth, c, b⟩ := Y
  obtain ⟨hx, hb, hr, hml, ho, hts, hX, hbl, hlk, hgv⟩ := h
  obtain ⟨hd, rfl⟩ := dd
  intro H locs ls hI hl
  exact lv_iand hx hb hd (kk H locs ls hI hl)
theorem lj_goto  (h : LF Y Lx xs) (dd : Dg cL_law pc tgt)  (kk : LJ Y I tgt L (st) k N) : LJ Y I pc L (st) k N := by
  obtain ⟨p, l, e, s, m, below, meth, c, b⟩ := Y
  obtain ⟨hx, hb, hr, hml, ho, hts, hX, hbl, hlk, hgv⟩ := h
  obtain ⟨off, hd, ht⟩ := dd
  intro H locs ls hI hl
  exact lv_goto hx hb hd ht (kk H locs ls hI hl)
theorem lj_tsw {dflt lo hi : Int} {offs : Array Int} {len : Nat} {off : Int} {x : Int32} (h : LF Y Lx xs) (dd : Dx cL_law pc (.tableswitch dflt lo hi offs) len pc') (y : Int32) (he : x = y) (h1 : ¬ y.toInt < lo) (h2 : ¬ hi < y.toInt) (hof : offs[(y.toInt - lo).toNat]? = some off) (ht : (pc : Int) + off = (tgt : Int)) (kk : LJ Y I tgt L (st) k N) : LJ Y I pc L (.int x :: st) k N := by
  obtain ⟨p, l, e, s, m, below, meth, c, b⟩ := Y
  obtain ⟨hx, hb, hr, hml, ho, hts, hX, hbl, hlk, hgv⟩ := h
  obtain ⟨hd, rfl⟩ := dd
  intro H locs ls hI hl
  subst he
  exact lv_tableIn hx hb hd h1 h2 hof ht (kk H locs ls hI hl)
theorem lj_tswOut {dflt lo hi : Int} {offs : Array Int} {len : Nat} {x : Int32} (h : LF Y Lx xs) (dd : Dx cL_law pc (.tableswitch dflt lo hi offs) len pc') (hout : x.toInt < lo ∨ hi < x.toInt) (ht : (pc : Int) + dflt = (tgt : Int)) (kk : LJ Y I tgt L (st) k N) : LJ Y I pc L (.int x :: st) k N := by
  obtain ⟨p, l, e, s, m, below, meth, c, b⟩ := Y
  obtain ⟨hx, hb, hr, hml, ho, hts, hX, hbl, hlk, hgv⟩ := h
  obtain ⟨hd, rfl⟩ := dd
  intro H locs ls hI hl
  exact lv_tableOut hx hb hd hout ht (kk H locs ls hI hl)
theorem lj_icmp_gt {x y : Int32} (h : LF Y Lx xs) (dd : Dc cL_law pc .gt tgt pc') (kt : y < x → LJ Y I tgt L st k N) (kf : ¬ (y < x) → LJ Y I pc' L st k N) : LJ Y I pc L (.int y :: .int x :: st) k N := by
  obtain ⟨p, l, e, s, m, below, meth, c, b⟩ := Y
  obtain ⟨hx, hb, hr, hml, ho, hts, hX, hbl, hlk, hgv⟩ := h
  obtain ⟨off, hd, ht, rfl⟩ := dd
  intro H locs ls hI hl
  exact lv_icmp_gt hx hb hd ht (fun q => kt q H locs ls hI hl) (fun q => kf q H locs ls hI hl)
theorem lj_icmp_eq {x : Int32} (h : LF Y Lx xs) (dd : Dc cL_law pc .eq tgt pc') (kt : LJ Y I tgt L st k N) : LJ Y I pc L (.int x :: .int x :: st) k N := by
  obtain ⟨p, l, e, s, m, below, meth, c, b⟩ := Y
  obtain ⟨hx, hb, hr, hml, ho, hts, hX, hbl, hlk, hgv⟩ := h
  obtain ⟨off, hd, ht, rfl⟩ := dd
  intro H locs ls hI hl
  exact lv_icmp_eq hx hb hd ht (fun _ => kt H locs ls hI hl) (fun q => absurd rfl q)
theorem lj_if_eq {x : Int32} (h : LF Y Lx xs) (dd : Dz cL_law pc .eq tgt pc') (kt : x = 0 → LJ Y I tgt L st k N) (kf : ¬ (x = 0) → LJ Y I pc' L st k N) : LJ Y I pc L (.int x :: st) k N := by
  obtain ⟨p, l, e, s, m, below, meth, c, b⟩ := Y
  obtain ⟨hx, hb, hr, hml, ho, hts, hX, hbl, hlk, hgv⟩ := h
  obtain ⟨off, hd, ht, rfl⟩ := dd
  intro H locs ls hI hl
  exact lv_if_eq hx hb hd ht (fun q => kt q H locs ls hI hl) (fun q => kf q H locs ls hI hl)
/-- the script read -/
theorem lj_sld {i : Nat} (h : LF Y Lx xs) (hI9 : ∀ H locs, I H locs → va_S (fr9 Y.2.2.2.1) Y.2.2.2.1.heap H locs) (dd : Dx cL_law pc .iaload 1 pc') (hi : i < Lx) (hLx : Lx ≤ 3072) (kk : LJ Y I pc' L (.int (xs i) :: st) k N) : LJ Y I pc L (.int (nI i) :: .ref Y.2.2.2.2.2.2.2.2 :: st) k N := by
  obtain ⟨p, l, e, s, m, below, meth, c, b⟩ := Y
  obtain ⟨hx, hb, hr, hml, ho, hts, hX, hbl, hlk, hgv⟩ := h
  obtain ⟨hd, rfl⟩ := dd
  intro H locs ls hI hl
  have e1 : (nI i).toNatClampNeg = i := nI_clamp (by omega)
  exact va_sld hx hb hX hbl (fun q => Nat.lt_irrefl _ (Nat.lt_of_lt_of_le hbl q)) (hI9 H locs hI) (vp_in_nI hi (by omega)) hd (by rw [e1]; exact kk H locs ls hI hl)
theorem lj_slen (h : LF Y Lx xs) (hI9 : ∀ H locs, I H locs → va_S (fr9 Y.2.2.2.1) Y.2.2.2.1.heap H locs) (dd : Dx cL_law pc .arraylength 1 pc') (kk : LJ Y I pc' L (.int (nI Lx) :: st) k N) : LJ Y I pc L (.ref Y.2.2.2.2.2.2.2.2 :: st) k N := by
  obtain ⟨p, l, e, s, m, below, meth, c, b⟩ := Y
  obtain ⟨hx, hb, hr, hml, ho, hts, hX, hbl, hlk, hgv⟩ := h
  obtain ⟨hd, rfl⟩ := dd
  intro H locs ls hI hl
  exact va_slen hx hb hX hbl (fun q => Nat.lt_irrefl _ (Nat.lt_of_lt_of_le hbl q)) (hI9 H locs hI) hd (kk H locs ls hI hl)
/-- the end -/
theorem lj_ret (h : LF Y Lx xs) (hI9 : ∀ H locs, I H locs → va_S (fr9 Y.2.2.2.1) Y.2.2.2.1.heap H locs) (dd : Dx cL_law pc .ireturn 1 pc') (hk : k ≤ 600000) (hN : N ≤ 7302250) : LJ Y I pc L [.int (nI 1)] k N := by
  obtain ⟨p, l, e, s, m, below, meth, c, b⟩ := Y
  obtain ⟨hx, hb, hr, hml, ho, hts, hX, hbl, hlk, hgv⟩ := h
  obtain ⟨hd, rfl⟩ := dd
  intro H locs ls hI hl
  refine va_forget (hI9 H locs hI).2.2 ?_
  refine W.widen hk hN ?_
  exact lw_ret hx hb hr hlk hd
end LJR
