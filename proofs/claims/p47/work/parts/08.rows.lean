/-! rows: an instruction each, over the layer -/
theorem ofInt_nat (k : Nat) (h : k < 2 ^ 31) : Int32.ofInt (Int.ofNat k) = nI k := by
  apply Int32.toInt_inj.mp
  rw [nI_toInt h, Int32.toInt_ofInt]
  exact Jvm.Kit.bmod32 (by have : (0:Int) ≤ Int.ofNat k := Int.natCast_nonneg k; omega) (by show ((k : Nat) : Int) < 2 ^ 31; omega)
theorem si8 : ∀ k, k < 128 → (Int8.ofInt (Int.ofNat k)).toInt32 = nI k := by decide +kernel
theorem si16 {k : Nat} (h : k < 32768) : (Int16.ofInt (Int.ofNat k)).toInt32 = nI k := by
  have e : (nI k).toInt = (k : Int) := nI_toInt (Nat.lt_trans h (by decide))
  have e2 : (Int16.ofInt (Int.ofNat k)).toInt = (k : Int) := by
    rw [Int16.toInt_ofInt]
    show Int.bmod ((k : Nat) : Int) 65536 = _
    rw [Int.bmod_def]
    omega
  apply Int32.toInt_inj.mp
  rw [Int16.toInt_toInt32, e2, e]
def b2i (p : Bool) : Int32 := nI p.toNat
theorem b2i_t : b2i true = nI 1 := rfl
theorem b2i_f : b2i false = nI 0 := rfl
theorem b2i_0 {p : Bool} : b2i p = 0 ↔ p = false := by cases p <;> decide
def lrem (i : Nat) : List (Nat × Value) → List (Nat × Value)
  | [] => []
  | (j, u) :: t => match Nat.beq i j with
    | true => lrem i t
    | false => (j, u) :: lrem i t
/-- the locals, in their order, one of them set -/
def lset (i : Nat) (v : Value) : List (Nat × Value) → List (Nat × Value)
  | [] => [(i, v)]
  | (j, u) :: t => match Nat.beq i j with
    | true => (i, v) :: lrem i t
    | false => match Nat.ble i j with
      | true => (i, v) :: (j, u) :: lrem i t
      | false => (j, u) :: lset i v t
theorem mem_lrem {i : Nat} {q : Nat × Value} : ∀ {l : List (Nat × Value)}, q ∈ lrem i l → q ∈ l ∧ q.1 ≠ i
  | [], h => by cases h
  | (j, u) :: t, h => by
    simp only [lrem] at h
    split at h
    · obtain ⟨h1, h2⟩ := mem_lrem h
      exact ⟨List.mem_cons_of_mem _ h1, h2⟩
    · next e =>
      rcases List.mem_cons.mp h with rfl | h
      · exact ⟨List.mem_cons_self, fun c => Nat.ne_of_beq_eq_false e c.symm⟩
      · obtain ⟨h1, h2⟩ := mem_lrem h
        exact ⟨List.mem_cons_of_mem _ h1, h2⟩
theorem mem_lset {i : Nat} {v : Value} {q : Nat × Value} : ∀ {l : List (Nat × Value)}, q ∈ lset i v l → q = (i, v) ∨ (q ∈ l ∧ q.1 ≠ i)
  | [], h => by
    simp only [lset, List.mem_singleton] at h
    exact Or.inl h
  | (j, u) :: t, h => by
    simp only [lset] at h
    split at h
    · rcases List.mem_cons.mp h with h | h
      · exact Or.inl h
      · obtain ⟨h1, h2⟩ := mem_lrem h
        exact Or.inr ⟨List.mem_cons_of_mem _ h1, h2⟩
    · next e =>
      split at h
      · rcases List.mem_cons.mp h with h | h
        · exact Or.inl h
        · rcases List.mem_cons.mp h with rfl | h
          · exact Or.inr ⟨List.mem_cons_self, fun c => Nat.ne_of_beq_eq_false e c.symm⟩
          · obtain ⟨h1, h2⟩ := mem_lrem h
            exact Or.inr ⟨List.mem_cons_of_mem _ h1, h2⟩
      · rcases List.mem_cons.mp h with rfl | h
        · exact Or.inr ⟨List.mem_cons_self, fun c => Nat.ne_of_beq_eq_false e c.symm⟩
        · rcases mem_lset h with h | ⟨h1, h2⟩
          · exact Or.inl h
          · exact Or.inr ⟨List.mem_cons_of_mem _ h1, h2⟩
def cat1 (l : List (Nat × Value)) : Bool := l.all fun q => Nat.beq q.2.category 1
theorem lset_has {ls : Array Slot} {n i : Nat} {v : Value} {l : List (Nat × Value)} (hc : cat1 l = true) (h : lv_has ls n ((i, v) :: l.filter (fun q => !(q.1 == i) && !(q.1 + 1 == i && q.2.category == 2)))) : lv_has ls n (lset i v l) := by
  refine ⟨h.1, h.2.1, fun q hq => ?_⟩
  rcases mem_lset hq with rfl | ⟨h1, h2⟩
  · exact h.2.2 _ List.mem_cons_self
  · refine h.2.2 q (List.mem_cons_of_mem _ (List.mem_filter.mpr ⟨h1, ?_⟩))
    have h3 := Nat.eq_of_beq_eq_true (List.all_eq_true.mp hc q h1)
    simp [h2, h3]
/-- fewer locals, or in another order -/
theorem g_sub {X : GX} {w : Wd} {n pc : Nat} {L L' : List (Nat × Value)} {st : List Value} {σ : Mem} (ks : List Nat) (h : lv_pick L ks = L') (k : G X w n pc L' st σ) : G X w n pc L st σ :=
  fun H locs ls hH hS hl => k H locs ls hH hS (lv_sub hl ks h)
theorem g_top {X : GX} {w : Wd} {n pc : Nat} {L : List (Nat × Value)} {st : List Value} {σ : Mem} {x y : Int32} (e : x = y) (k : G X w n pc L (.int y :: st) σ) : G X w n pc L (.int x :: st) σ := by
  subst e; exact k
theorem g_mem {X : GX} {w : Wd} {n pc : Nat} {L : List (Nat × Value)} {st : List Value} {σ σ' : Mem} (e : σ = σ') (k : G X w n pc L st σ') : G X w n pc L st σ := by
  subst e; exact k
section GI
variable {X : GX} {w : Wd} {cc : ByteArray} {n pc pc' tgt d : Nat} {own : String} {L L' : List (Nat × Value)} {st : List Value} {σ : Mem}
theorem good_lay {C : String} {T : u_T} {N : Nat} {c : Cond} (h : c ∈ u_ws C T N) : goodWord c = true := by
  obtain ⟨k, -, rfl⟩ := List.mem_map.mp h
  unfold u_lay
  split <;> rfl
theorem g_iconst {z : Nat} (h : Fx X w cc n own d) (dd : Dx cc pc (.iconst (Int.ofNat z)) 1 pc') (hz : z < 100) (k : G X w n pc' L (.int (nI z) :: st) σ) : G X w n pc L (st) σ := by
  obtain ⟨p, l, e, R, s, m, args, below, meth, c, Q⟩ := X
  obtain ⟨hx, hb, hml, ho, hts, hlk, hR, hK, hW⟩ := h
  obtain ⟨hd, rfl⟩ := dd
  intro H locs ls hH hS hl
  exact lv_iconst hx hb hd (ofInt_nat z (by omega)) (k H locs ls hH hS hl)
theorem g_iconstv {i : Int} {v : Int32} (h : Fx X w cc n own d) (dd : Dx cc pc (.iconst i) 1 pc') (hv : Int32.ofInt i = v) (k : G X w n pc' L (.int v :: st) σ) : G X w n pc L (st) σ := by
  obtain ⟨p, l, e, R, s, m, args, below, meth, c, Q⟩ := X
  obtain ⟨hx, hb, hml, ho, hts, hlk, hR, hK, hW⟩ := h
  obtain ⟨hd, rfl⟩ := dd
  intro H locs ls hH hS hl
  exact lv_iconst hx hb hd hv (k H locs ls hH hS hl)
theorem g_bipush {z : Nat} (h : Fx X w cc n own d) (dd : Dx cc pc (.bipush (Int.ofNat z)) 2 pc') (hz : z < 128) (k : G X w n pc' L (.int (nI z) :: st) σ) : G X w n pc L (st) σ := by
  obtain ⟨p, l, e, R, s, m, args, below, meth, c, Q⟩ := X
  obtain ⟨hx, hb, hml, ho, hts, hlk, hR, hK, hW⟩ := h
  obtain ⟨hd, rfl⟩ := dd
  intro H locs ls hH hS hl
  exact lv_bipush hx hb hd (si8 z hz) (k H locs ls hH hS hl)
theorem g_bipushv {i : Int} {v : Int32} (h : Fx X w cc n own d) (dd : Dx cc pc (.bipush i) 2 pc') (hv : (Int8.ofInt i).toInt32 = v) (k : G X w n pc' L (.int v :: st) σ) : G X w n pc L (st) σ := by
  obtain ⟨p, l, e, R, s, m, args, below, meth, c, Q⟩ := X
  obtain ⟨hx, hb, hml, ho, hts, hlk, hR, hK, hW⟩ := h
  obtain ⟨hd, rfl⟩ := dd
  intro H locs ls hH hS hl
  exact lv_bipush hx hb hd hv (k H locs ls hH hS hl)
theorem g_sipush {z : Nat} (h : Fx X w cc n own d) (dd : Dx cc pc (.sipush (Int.ofNat z)) 3 pc') (hz : z < 32768) (k : G X w n pc' L (.int (nI z) :: st) σ) : G X w n pc L (st) σ := by
  obtain ⟨p, l, e, R, s, m, args, below, meth, c, Q⟩ := X
  obtain ⟨hx, hb, hml, ho, hts, hlk, hR, hK, hW⟩ := h
  obtain ⟨hd, rfl⟩ := dd
  intro H locs ls hH hS hl
  exact lv_sipush hx hb hd (si16 hz) (k H locs ls hH hS hl)
theorem g_ldc {idx : Nat} {v : Int32} (h : Fx X w cc n own d) (dd : Dx cc pc (.ldc idx) 2 pc') (hc : Cond.constant own idx v ∈ lw_tbl) (k : G X w n pc' L (.int v :: st) σ) : G X w n pc L (st) σ := by
  obtain ⟨p, l, e, R, s, m, args, below, meth, c, Q⟩ := X
  obtain ⟨hx, hb, hml, ho, hts, hlk, hR, hK, hW⟩ := h
  obtain ⟨hd, rfl⟩ := dd
  intro H locs ls hH hS hl
  exact lv_ldc hx hb ho (hts _ hc rfl) hd (k H locs ls hH hS hl)
theorem g_ldcw {idx : Nat} {v : Int32} (h : Fx X w cc n own d) (dd : Dx cc pc (.ldc_w idx) 3 pc') (hc : Cond.constant own idx v ∈ lw_tbl) (k : G X w n pc' L (.int v :: st) σ) : G X w n pc L (st) σ := by
  obtain ⟨p, l, e, R, s, m, args, below, meth, c, Q⟩ := X
  obtain ⟨hx, hb, hml, ho, hts, hlk, hR, hK, hW⟩ := h
  obtain ⟨hd, rfl⟩ := dd
  intro H locs ls hH hS hl
  exact lv_ldcw hx hb ho (hts _ hc rfl) hd (k H locs ls hH hS hl)
theorem g_ldc2 {idx : Nat} {v : Int64} (h : Fx X w cc n own d) (dd : Dx cc pc (.ldc2_w idx) 3 pc') (hc : Cond.constantLong own idx v ∈ lw_tbl) (k : G X w n pc' L (.long v :: st) σ) : G X w n pc L (st) σ := by
  obtain ⟨p, l, e, R, s, m, args, below, meth, c, Q⟩ := X
  obtain ⟨hx, hb, hml, ho, hts, hlk, hR, hK, hW⟩ := h
  obtain ⟨hd, rfl⟩ := dd
  intro H locs ls hH hS hl
  exact lv_ldc2 hx hb ho (hts _ hc rfl) hd (k H locs ls hH hS hl)
theorem g_iload_n {q : Fin 4} {x : Int32} (h : Fx X w cc n own d) (dd : Dx cc pc (.iload_n q) 1 pc') (j : Nat) (hj : L[j]? = some (q.val, .int x)) (k : G X w n pc' L (.int x :: st) σ) : G X w n pc L (st) σ := by
  obtain ⟨p, l, e, R, s, m, args, below, meth, c, Q⟩ := X
  obtain ⟨hx, hb, hml, ho, hts, hlk, hR, hK, hW⟩ := h
  obtain ⟨hd, rfl⟩ := dd
  intro H locs ls hH hS hl
  exact lv_iload_n hx hb hd rfl (lv_at hl j hj) (k H locs ls hH hS hl)
theorem g_iload {i : Nat} {x : Int32} (h : Fx X w cc n own d) (dd : Dx cc pc (.iload i) 2 pc') (j : Nat) (hj : L[j]? = some (i, .int x)) (k : G X w n pc' L (.int x :: st) σ) : G X w n pc L (st) σ := by
  obtain ⟨p, l, e, R, s, m, args, below, meth, c, Q⟩ := X
  obtain ⟨hx, hb, hml, ho, hts, hlk, hR, hK, hW⟩ := h
  obtain ⟨hd, rfl⟩ := dd
  intro H locs ls hH hS hl
  exact lv_iload hx hb hd (lv_at hl j hj) (k H locs ls hH hS hl)
theorem g_aload_n {q : Fin 4} {x : Nat} (h : Fx X w cc n own d) (dd : Dx cc pc (.aload_n q) 1 pc') (j : Nat) (hj : L[j]? = some (q.val, .ref x)) (k : G X w n pc' L (.ref x :: st) σ) : G X w n pc L (st) σ := by
  obtain ⟨p, l, e, R, s, m, args, below, meth, c, Q⟩ := X
  obtain ⟨hx, hb, hml, ho, hts, hlk, hR, hK, hW⟩ := h
  obtain ⟨hd, rfl⟩ := dd
  intro H locs ls hH hS hl
  exact lv_aload_n hx hb hd rfl (lv_at hl j hj) (k H locs ls hH hS hl)
theorem g_aload {i : Nat} {x : Nat} (h : Fx X w cc n own d) (dd : Dx cc pc (.aload i) 2 pc') (j : Nat) (hj : L[j]? = some (i, .ref x)) (k : G X w n pc' L (.ref x :: st) σ) : G X w n pc L (st) σ := by
  obtain ⟨p, l, e, R, s, m, args, below, meth, c, Q⟩ := X
  obtain ⟨hx, hb, hml, ho, hts, hlk, hR, hK, hW⟩ := h
  obtain ⟨hd, rfl⟩ := dd
  intro H locs ls hH hS hl
  exact lv_aload hx hb hd (lv_at hl j hj) (k H locs ls hH hS hl)
theorem g_istore_n {q : Fin 4} {x : Int32} (h : Fx X w cc n own d) (dd : Dx cc pc (.istore_n q) 1 pc') (hc : cat1 L = true) (hn : q.val < n) (hL : lset q.val (.int x) L = L') (k : G X w n pc' L' st σ) : G X w n pc L (.int x :: st) σ := by
  obtain ⟨p, l, e, R, s, m, args, below, meth, c, Q⟩ := X
  obtain ⟨hx, hb, hml, ho, hts, hlk, hR, hK, hW⟩ := h
  obtain ⟨hd, rfl⟩ := dd
  subst hL
  intro H locs ls hH hS hl
  exact lv_istore_n hx hb hd rfl hl hn rfl (fun ls' hl' => k H locs ls' hH hS (lset_has hc hl'))
theorem g_istore {i : Nat} {x : Int32} (h : Fx X w cc n own d) (dd : Dx cc pc (.istore i) 2 pc') (hc : cat1 L = true) (hn : i < n) (hL : lset i (.int x) L = L') (k : G X w n pc' L' st σ) : G X w n pc L (.int x :: st) σ := by
  obtain ⟨p, l, e, R, s, m, args, below, meth, c, Q⟩ := X
  obtain ⟨hx, hb, hml, ho, hts, hlk, hR, hK, hW⟩ := h
  obtain ⟨hd, rfl⟩ := dd
  subst hL
  intro H locs ls hH hS hl
  exact lv_istore hx hb hd hl hn rfl (fun ls' hl' => k H locs ls' hH hS (lset_has hc hl'))
theorem g_astore_n {q : Fin 4} {x : Nat} (h : Fx X w cc n own d) (dd : Dx cc pc (.astore_n q) 1 pc') (hc : cat1 L = true) (hn : q.val < n) (hL : lset q.val (.ref x) L = L') (k : G X w n pc' L' st σ) : G X w n pc L (.ref x :: st) σ := by
  obtain ⟨p, l, e, R, s, m, args, below, meth, c, Q⟩ := X
  obtain ⟨hx, hb, hml, ho, hts, hlk, hR, hK, hW⟩ := h
  obtain ⟨hd, rfl⟩ := dd
  subst hL
  intro H locs ls hH hS hl
  exact lv_astore_n hx hb hd rfl hl hn rfl (fun ls' hl' => k H locs ls' hH hS (lset_has hc hl'))
theorem g_astore {i : Nat} {x : Nat} (h : Fx X w cc n own d) (dd : Dx cc pc (.astore i) 2 pc') (hc : cat1 L = true) (hn : i < n) (hL : lset i (.ref x) L = L') (k : G X w n pc' L' st σ) : G X w n pc L (.ref x :: st) σ := by
  obtain ⟨p, l, e, R, s, m, args, below, meth, c, Q⟩ := X
  obtain ⟨hx, hb, hml, ho, hts, hlk, hR, hK, hW⟩ := h
  obtain ⟨hd, rfl⟩ := dd
  subst hL
  intro H locs ls hH hS hl
  exact lv_astore hx hb hd hl hn rfl (fun ls' hl' => k H locs ls' hH hS (lset_has hc hl'))
theorem g_iinc {i : Nat} {z : Int} {x v : Int32} (h : Fx X w cc n own d) (dd : Dx cc pc (.iinc i z) 3 pc') (j : Nat) (hj : L[j]? = some (i, .int x)) (hc : cat1 L = true) (hn : i < n) (hv : x + Int32.ofInt z = v) (hL : lset i (.int v) L = L') (k : G X w n pc' L' st σ) : G X w n pc L (st) σ := by
  obtain ⟨p, l, e, R, s, m, args, below, meth, c, Q⟩ := X
  obtain ⟨hx, hb, hml, ho, hts, hlk, hR, hK, hW⟩ := h
  obtain ⟨hd, rfl⟩ := dd
  subst hL
  intro H locs ls hH hS hl
  exact lv_iinc hx hb hd hl (k := j) hj hv hn rfl (fun ls' hl' => k H locs ls' hH hS (lset_has hc hl'))
theorem g_iadd {x y : Int32} (h : Fx X w cc n own d) (dd : Dx cc pc (.iadd) 1 pc') (k : G X w n pc' L (.int (x + y) :: st) σ) : G X w n pc L (.int y :: .int x :: st) σ := by
  obtain ⟨p, l, e, R, s, m, args, below, meth, c, Q⟩ := X
  obtain ⟨hx, hb, hml, ho, hts, hlk, hR, hK, hW⟩ := h
  obtain ⟨hd, rfl⟩ := dd
  intro H locs ls hH hS hl
  exact lv_iadd hx hb hd (k H locs ls hH hS hl)
theorem g_isub {x y : Int32} (h : Fx X w cc n own d) (dd : Dx cc pc (.isub) 1 pc') (k : G X w n pc' L (.int (x - y) :: st) σ) : G X w n pc L (.int y :: .int x :: st) σ := by
  obtain ⟨p, l, e, R, s, m, args, below, meth, c, Q⟩ := X
  obtain ⟨hx, hb, hml, ho, hts, hlk, hR, hK, hW⟩ := h
  obtain ⟨hd, rfl⟩ := dd
  intro H locs ls hH hS hl
  exact lv_isub hx hb hd (k H locs ls hH hS hl)
theorem g_imul {x y : Int32} (h : Fx X w cc n own d) (dd : Dx cc pc (.imul) 1 pc') (k : G X w n pc' L (.int (x * y) :: st) σ) : G X w n pc L (.int y :: .int x :: st) σ := by
  obtain ⟨p, l, e, R, s, m, args, below, meth, c, Q⟩ := X
  obtain ⟨hx, hb, hml, ho, hts, hlk, hR, hK, hW⟩ := h
  obtain ⟨hd, rfl⟩ := dd
  intro H locs ls hH hS hl
  exact lv_imul hx hb hd (k H locs ls hH hS hl)
theorem g_iand {x y : Int32} (h : Fx X w cc n own d) (dd : Dx cc pc (.iand) 1 pc') (k : G X w n pc' L (.int (x &&& y) :: st) σ) : G X w n pc L (.int y :: .int x :: st) σ := by
  obtain ⟨p, l, e, R, s, m, args, below, meth, c, Q⟩ := X
  obtain ⟨hx, hb, hml, ho, hts, hlk, hR, hK, hW⟩ := h
  obtain ⟨hd, rfl⟩ := dd
  intro H locs ls hH hS hl
  exact lv_iand hx hb hd (k H locs ls hH hS hl)
theorem g_ior {x y : Int32} (h : Fx X w cc n own d) (dd : Dx cc pc (.ior) 1 pc') (k : G X w n pc' L (.int (x ||| y) :: st) σ) : G X w n pc L (.int y :: .int x :: st) σ := by
  obtain ⟨p, l, e, R, s, m, args, below, meth, c, Q⟩ := X
  obtain ⟨hx, hb, hml, ho, hts, hlk, hR, hK, hW⟩ := h
  obtain ⟨hd, rfl⟩ := dd
  intro H locs ls hH hS hl
  exact lv_ior hx hb hd (k H locs ls hH hS hl)
theorem g_ixor {x y : Int32} (h : Fx X w cc n own d) (dd : Dx cc pc (.ixor) 1 pc') (k : G X w n pc' L (.int (x ^^^ y) :: st) σ) : G X w n pc L (.int y :: .int x :: st) σ := by
  obtain ⟨p, l, e, R, s, m, args, below, meth, c, Q⟩ := X
  obtain ⟨hx, hb, hml, ho, hts, hlk, hR, hK, hW⟩ := h
  obtain ⟨hd, rfl⟩ := dd
  intro H locs ls hH hS hl
  exact lv_ixor hx hb hd (k H locs ls hH hS hl)
theorem g_ishl {x y : Int32} (h : Fx X w cc n own d) (dd : Dx cc pc (.ishl) 1 pc') (k : G X w n pc' L (.int (x <<< (y &&& 31)) :: st) σ) : G X w n pc L (.int y :: .int x :: st) σ := by
  obtain ⟨p, l, e, R, s, m, args, below, meth, c, Q⟩ := X
  obtain ⟨hx, hb, hml, ho, hts, hlk, hR, hK, hW⟩ := h
  obtain ⟨hd, rfl⟩ := dd
  intro H locs ls hH hS hl
  exact lv_ishl hx hb hd (k H locs ls hH hS hl)
theorem g_ishr {x y : Int32} (h : Fx X w cc n own d) (dd : Dx cc pc (.ishr) 1 pc') (k : G X w n pc' L (.int (x >>> (y &&& 31)) :: st) σ) : G X w n pc L (.int y :: .int x :: st) σ := by
  obtain ⟨p, l, e, R, s, m, args, below, meth, c, Q⟩ := X
  obtain ⟨hx, hb, hml, ho, hts, hlk, hR, hK, hW⟩ := h
  obtain ⟨hd, rfl⟩ := dd
  intro H locs ls hH hS hl
  exact lv_ishr hx hb hd (k H locs ls hH hS hl)
theorem g_idiv {x y : Int32} (h : Fx X w cc n own d) (dd : Dx cc pc (.idiv) 1 pc') (hne : ¬ y = 0) (k : G X w n pc' L (.int (x / y) :: st) σ) : G X w n pc L (.int y :: .int x :: st) σ := by
  obtain ⟨p, l, e, R, s, m, args, below, meth, c, Q⟩ := X
  obtain ⟨hx, hb, hml, ho, hts, hlk, hR, hK, hW⟩ := h
  obtain ⟨hd, rfl⟩ := dd
  intro H locs ls hH hS hl
  exact lv_idiv hx hb hd hne (k H locs ls hH hS hl)
theorem g_irem {x y : Int32} (h : Fx X w cc n own d) (dd : Dx cc pc (.irem) 1 pc') (hne : ¬ y = 0) (k : G X w n pc' L (.int (x - x / y * y) :: st) σ) : G X w n pc L (.int y :: .int x :: st) σ := by
  obtain ⟨p, l, e, R, s, m, args, below, meth, c, Q⟩ := X
  obtain ⟨hx, hb, hml, ho, hts, hlk, hR, hK, hW⟩ := h
  obtain ⟨hd, rfl⟩ := dd
  intro H locs ls hH hS hl
  exact lv_irem hx hb hd hne (k H locs ls hH hS hl)
theorem g_iushr {x y : Int32} (h : Fx X w cc n own d) (dd : Dx cc pc (.iushr) 1 pc') (k : G X w n pc' L (.int ((x.toUInt32 >>> (y.toUInt32 &&& Int32.toUInt32 31)).toInt32) :: st) σ) : G X w n pc L (.int y :: .int x :: st) σ := by
  obtain ⟨p, l, e, R, s, m, args, below, meth, c, Q⟩ := X
  obtain ⟨hx, hb, hml, ho, hts, hlk, hR, hK, hW⟩ := h
  obtain ⟨hd, rfl⟩ := dd
  intro H locs ls hH hS hl
  exact lv_iushr hx hb hd rfl (k H locs ls hH hS hl)
theorem g_ladd {x y : Int64} (h : Fx X w cc n own d) (dd : Dx cc pc (.ladd) 1 pc') (k : G X w n pc' L (.long (x + y) :: st) σ) : G X w n pc L (.long y :: .long x :: st) σ := by
  obtain ⟨p, l, e, R, s, m, args, below, meth, c, Q⟩ := X
  obtain ⟨hx, hb, hml, ho, hts, hlk, hR, hK, hW⟩ := h
  obtain ⟨hd, rfl⟩ := dd
  intro H locs ls hH hS hl
  exact lv_ladd hx hb hd (k H locs ls hH hS hl)
theorem g_lmul {x y : Int64} (h : Fx X w cc n own d) (dd : Dx cc pc (.lmul) 1 pc') (k : G X w n pc' L (.long (x * y) :: st) σ) : G X w n pc L (.long y :: .long x :: st) σ := by
  obtain ⟨p, l, e, R, s, m, args, below, meth, c, Q⟩ := X
  obtain ⟨hx, hb, hml, ho, hts, hlk, hR, hK, hW⟩ := h
  obtain ⟨hd, rfl⟩ := dd
  intro H locs ls hH hS hl
  exact lv_lmul hx hb hd (k H locs ls hH hS hl)
theorem g_ldiv {x y : Int64} (h : Fx X w cc n own d) (dd : Dx cc pc (.ldiv) 1 pc') (hne : ¬ y = 0) (k : G X w n pc' L (.long (x / y) :: st) σ) : G X w n pc L (.long y :: .long x :: st) σ := by
  obtain ⟨p, l, e, R, s, m, args, below, meth, c, Q⟩ := X
  obtain ⟨hx, hb, hml, ho, hts, hlk, hR, hK, hW⟩ := h
  obtain ⟨hd, rfl⟩ := dd
  intro H locs ls hH hS hl
  exact lv_ldiv hx hb hd hne (k H locs ls hH hS hl)
theorem g_lrem {x y : Int64} (h : Fx X w cc n own d) (dd : Dx cc pc (.lrem) 1 pc') (hne : ¬ y = 0) (k : G X w n pc' L (.long (x - x / y * y) :: st) σ) : G X w n pc L (.long y :: .long x :: st) σ := by
  obtain ⟨p, l, e, R, s, m, args, below, meth, c, Q⟩ := X
  obtain ⟨hx, hb, hml, ho, hts, hlk, hR, hK, hW⟩ := h
  obtain ⟨hd, rfl⟩ := dd
  intro H locs ls hH hS hl
  exact lv_lrem hx hb hd hne (k H locs ls hH hS hl)
theorem g_i2l {x : Int32} (h : Fx X w cc n own d) (dd : Dx cc pc (.i2l) 1 pc') (k : G X w n pc' L (.long x.toInt64 :: st) σ) : G X w n pc L (.int x :: st) σ := by
  obtain ⟨p, l, e, R, s, m, args, below, meth, c, Q⟩ := X
  obtain ⟨hx, hb, hml, ho, hts, hlk, hR, hK, hW⟩ := h
  obtain ⟨hd, rfl⟩ := dd
  intro H locs ls hH hS hl
  exact lv_i2l hx hb hd rfl (k H locs ls hH hS hl)
theorem g_l2i {x : Int64} (h : Fx X w cc n own d) (dd : Dx cc pc (.l2i) 1 pc') (k : G X w n pc' L (.int x.toInt32 :: st) σ) : G X w n pc L (.long x :: st) σ := by
  obtain ⟨p, l, e, R, s, m, args, below, meth, c, Q⟩ := X
  obtain ⟨hx, hb, hml, ho, hts, hlk, hR, hK, hW⟩ := h
  obtain ⟨hd, rfl⟩ := dd
  intro H locs ls hH hS hl
  exact lv_l2i hx hb hd rfl (k H locs ls hH hS hl)
theorem g_i2b {x : Int32} (h : Fx X w cc n own d) (dd : Dx cc pc (.i2b) 1 pc') (k : G X w n pc' L (.int x.toInt8.toInt32 :: st) σ) : G X w n pc L (.int x :: st) σ := by
  obtain ⟨p, l, e, R, s, m, args, below, meth, c, Q⟩ := X
  obtain ⟨hx, hb, hml, ho, hts, hlk, hR, hK, hW⟩ := h
  obtain ⟨hd, rfl⟩ := dd
  intro H locs ls hH hS hl
  exact lv_i2b hx hb hd rfl (k H locs ls hH hS hl)
theorem g_i2c {x : Int32} (h : Fx X w cc n own d) (dd : Dx cc pc (.i2c) 1 pc') (k : G X w n pc' L (.int (x.toUInt32 % 65536).toInt32 :: st) σ) : G X w n pc L (.int x :: st) σ := by
  obtain ⟨p, l, e, R, s, m, args, below, meth, c, Q⟩ := X
  obtain ⟨hx, hb, hml, ho, hts, hlk, hR, hK, hW⟩ := h
  obtain ⟨hd, rfl⟩ := dd
  intro H locs ls hH hS hl
  exact lv_i2c hx hb hd rfl (k H locs ls hH hS hl)
theorem g_iaddN {a b : Nat} (h : Fx X w cc n own d) (dd : Dx cc pc (.iadd) 1 pc') (k : G X w n pc' L (.int (nI (a + b)) :: st) σ) : G X w n pc L (.int (nI b) :: .int (nI a) :: st) σ := by
  exact g_iadd h dd (by rw [nI_add]; exact k)
theorem g_imulN {a b : Nat} (h : Fx X w cc n own d) (dd : Dx cc pc (.imul) 1 pc') (k : G X w n pc' L (.int (nI (a * b)) :: st) σ) : G X w n pc L (.int (nI b) :: .int (nI a) :: st) σ := by
  exact g_imul h dd (by rw [pk_mul]; exact k)
theorem g_isubN {a b : Nat} (h : Fx X w cc n own d) (dd : Dx cc pc (.isub) 1 pc') (hle : b ≤ a) (k : G X w n pc' L (.int (nI (a - b)) :: st) σ) : G X w n pc L (.int (nI b) :: .int (nI a) :: st) σ := by
  exact g_isub h dd (by rw [pk_sub hle]; exact k)
theorem g_iremN {a b : Nat} (h : Fx X w cc n own d) (dd : Dx cc pc (.irem) 1 pc') (ha : a < 2 ^ 31) (h0 : 0 < b) (hb : b < 2 ^ 31) (k : G X w n pc' L (.int (nI (a % b)) :: st) σ) : G X w n pc L (.int (nI b) :: .int (nI a) :: st) σ := by
  exact g_irem h dd (fun e => nI_ne0 h0 hb e) (by rw [pk_rem ha h0 hb]; exact k)
theorem g_idivN {a b : Nat} (h : Fx X w cc n own d) (dd : Dx cc pc (.idiv) 1 pc') (ha : a < 2 ^ 31) (h0 : 0 < b) (hb : b < 2 ^ 31) (k : G X w n pc' L (.int (nI (a / b)) :: st) σ) : G X w n pc L (.int (nI b) :: .int (nI a) :: st) σ := by
  exact g_idiv h dd (fun e => nI_ne0 h0 hb e) (by rw [pk_div ha h0 hb]; exact k)
theorem g_iincN {i a b : Nat} (h : Fx X w cc n own d) (dd : Dx cc pc (.iinc i (Int.ofNat b)) 3 pc') (j : Nat) (hj : L[j]? = some (i, .int (nI a))) (hc : cat1 L = true) (hn : i < n) (hb : b < 100) (hL : lset i (.int (nI (a + b))) L = L') (k : G X w n pc' L' st σ) : G X w n pc L (st) σ := by
  exact g_iinc h dd j hj hc hn (by rw [ofInt_nat b (by omega), nI_add]) hL k
theorem g_dup {va : Value} (h : Fx X w cc n own d) (dd : Dx cc pc (.dup) 1 pc') (hva : va.category = 1) (k : G X w n pc' L (va :: va :: st) σ) : G X w n pc L (va :: st) σ := by
  obtain ⟨p, l, e, R, s, m, args, below, meth, c, Q⟩ := X
  obtain ⟨hx, hb, hml, ho, hts, hlk, hR, hK, hW⟩ := h
  obtain ⟨hd, rfl⟩ := dd
  intro H locs ls hH hS hl
  exact lv_dup hx hb hd hva (k H locs ls hH hS hl)
theorem g_pop {va : Value} (h : Fx X w cc n own d) (dd : Dx cc pc (.pop) 1 pc') (hva : va.category = 1) (k : G X w n pc' L (st) σ) : G X w n pc L (va :: st) σ := by
  obtain ⟨p, l, e, R, s, m, args, below, meth, c, Q⟩ := X
  obtain ⟨hx, hb, hml, ho, hts, hlk, hR, hK, hW⟩ := h
  obtain ⟨hd, rfl⟩ := dd
  intro H locs ls hH hS hl
  exact lv_pop hx hb hd hva (k H locs ls hH hS hl)
theorem g_dup_x1 {va vb : Value} (h : Fx X w cc n own d) (dd : Dx cc pc (.dup_x1) 1 pc') (hva : va.category = 1) (hvb : vb.category = 1) (k : G X w n pc' L (va :: vb :: va :: st) σ) : G X w n pc L (va :: vb :: st) σ := by
  obtain ⟨p, l, e, R, s, m, args, below, meth, c, Q⟩ := X
  obtain ⟨hx, hb, hml, ho, hts, hlk, hR, hK, hW⟩ := h
  obtain ⟨hd, rfl⟩ := dd
  intro H locs ls hH hS hl
  exact lv_dup_x1 hx hb hd hva hvb (k H locs ls hH hS hl)
theorem g_dup2 {va vb : Value} (h : Fx X w cc n own d) (dd : Dx cc pc (.dup2) 1 pc') (hva : va.category = 1) (hvb : vb.category = 1) (k : G X w n pc' L (va :: vb :: va :: vb :: st) σ) : G X w n pc L (va :: vb :: st) σ := by
  obtain ⟨p, l, e, R, s, m, args, below, meth, c, Q⟩ := X
  obtain ⟨hx, hb, hml, ho, hts, hlk, hR, hK, hW⟩ := h
  obtain ⟨hd, rfl⟩ := dd
  intro H locs ls hH hS hl
  exact lv_dup2_11 hx hb hd hva hvb (k H locs ls hH hS hl)
theorem g_if_eq {x : Int32} (h : Fx X w cc n own d) (dd : Dz cc pc .eq tgt pc') (kt : x = 0 → G X w n tgt L st σ) (kf : ¬ (x = 0) → G X w n pc' L st σ) : G X w n pc L (.int x :: st) σ := by
  obtain ⟨p, l, e, R, s, m, args, below, meth, c, Q⟩ := X
  obtain ⟨hx, hb, hml, ho, hts, hlk, hR, hK, hW⟩ := h
  obtain ⟨off, hd, ht, rfl⟩ := dd
  intro H locs ls hH hS hl
  exact lv_if_eq hx hb hd ht (fun q => kt q H locs ls hH hS hl) (fun q => kf q H locs ls hH hS hl)
theorem g_if_ne {x : Int32} (h : Fx X w cc n own d) (dd : Dz cc pc .ne tgt pc') (kt : x ≠ 0 → G X w n tgt L st σ) (kf : x = 0 → G X w n pc' L st σ) : G X w n pc L (.int x :: st) σ := by
  obtain ⟨p, l, e, R, s, m, args, below, meth, c, Q⟩ := X
  obtain ⟨hx, hb, hml, ho, hts, hlk, hR, hK, hW⟩ := h
  obtain ⟨off, hd, ht, rfl⟩ := dd
  intro H locs ls hH hS hl
  exact lv_if_ne hx hb hd ht (fun q => kt q H locs ls hH hS hl) (fun q => kf q H locs ls hH hS hl)
theorem g_if_lt {x : Int32} (h : Fx X w cc n own d) (dd : Dz cc pc .lt tgt pc') (kt : x < 0 → G X w n tgt L st σ) (kf : ¬ (x < 0) → G X w n pc' L st σ) : G X w n pc L (.int x :: st) σ := by
  obtain ⟨p, l, e, R, s, m, args, below, meth, c, Q⟩ := X
  obtain ⟨hx, hb, hml, ho, hts, hlk, hR, hK, hW⟩ := h
  obtain ⟨off, hd, ht, rfl⟩ := dd
  intro H locs ls hH hS hl
  exact lv_if_lt hx hb hd ht (fun q => kt q H locs ls hH hS hl) (fun q => kf q H locs ls hH hS hl)
theorem g_if_ge {x : Int32} (h : Fx X w cc n own d) (dd : Dz cc pc .ge tgt pc') (kt : 0 ≤ x → G X w n tgt L st σ) (kf : ¬ (0 ≤ x) → G X w n pc' L st σ) : G X w n pc L (.int x :: st) σ := by
  obtain ⟨p, l, e, R, s, m, args, below, meth, c, Q⟩ := X
  obtain ⟨hx, hb, hml, ho, hts, hlk, hR, hK, hW⟩ := h
  obtain ⟨off, hd, ht, rfl⟩ := dd
  intro H locs ls hH hS hl
  exact lv_if_ge hx hb hd ht (fun q => kt q H locs ls hH hS hl) (fun q => kf q H locs ls hH hS hl)
theorem g_if_gt {x : Int32} (h : Fx X w cc n own d) (dd : Dz cc pc .gt tgt pc') (kt : 0 < x → G X w n tgt L st σ) (kf : ¬ (0 < x) → G X w n pc' L st σ) : G X w n pc L (.int x :: st) σ := by
  obtain ⟨p, l, e, R, s, m, args, below, meth, c, Q⟩ := X
  obtain ⟨hx, hb, hml, ho, hts, hlk, hR, hK, hW⟩ := h
  obtain ⟨off, hd, ht, rfl⟩ := dd
  intro H locs ls hH hS hl
  exact lv_if_gt hx hb hd ht (fun q => kt q H locs ls hH hS hl) (fun q => kf q H locs ls hH hS hl)
theorem g_if_le {x : Int32} (h : Fx X w cc n own d) (dd : Dz cc pc .le tgt pc') (kt : x ≤ 0 → G X w n tgt L st σ) (kf : ¬ (x ≤ 0) → G X w n pc' L st σ) : G X w n pc L (.int x :: st) σ := by
  obtain ⟨p, l, e, R, s, m, args, below, meth, c, Q⟩ := X
  obtain ⟨hx, hb, hml, ho, hts, hlk, hR, hK, hW⟩ := h
  obtain ⟨off, hd, ht, rfl⟩ := dd
  intro H locs ls hH hS hl
  exact lv_if_le hx hb hd ht (fun q => kt q H locs ls hH hS hl) (fun q => kf q H locs ls hH hS hl)
theorem g_icmp_eq {x y : Int32} (h : Fx X w cc n own d) (dd : Dc cc pc .eq tgt pc') (kt : x = y → G X w n tgt L st σ) (kf : ¬ (x = y) → G X w n pc' L st σ) : G X w n pc L (.int y :: .int x :: st) σ := by
  obtain ⟨p, l, e, R, s, m, args, below, meth, c, Q⟩ := X
  obtain ⟨hx, hb, hml, ho, hts, hlk, hR, hK, hW⟩ := h
  obtain ⟨off, hd, ht, rfl⟩ := dd
  intro H locs ls hH hS hl
  exact lv_icmp_eq hx hb hd ht (fun q => kt q H locs ls hH hS hl) (fun q => kf q H locs ls hH hS hl)
theorem g_icmp_ne {x y : Int32} (h : Fx X w cc n own d) (dd : Dc cc pc .ne tgt pc') (kt : x ≠ y → G X w n tgt L st σ) (kf : x = y → G X w n pc' L st σ) : G X w n pc L (.int y :: .int x :: st) σ := by
  obtain ⟨p, l, e, R, s, m, args, below, meth, c, Q⟩ := X
  obtain ⟨hx, hb, hml, ho, hts, hlk, hR, hK, hW⟩ := h
  obtain ⟨off, hd, ht, rfl⟩ := dd
  intro H locs ls hH hS hl
  exact lv_icmp_ne hx hb hd ht (fun q => kt q H locs ls hH hS hl) (fun q => kf q H locs ls hH hS hl)
theorem g_icmp_lt {x y : Int32} (h : Fx X w cc n own d) (dd : Dc cc pc .lt tgt pc') (kt : x < y → G X w n tgt L st σ) (kf : ¬ (x < y) → G X w n pc' L st σ) : G X w n pc L (.int y :: .int x :: st) σ := by
  obtain ⟨p, l, e, R, s, m, args, below, meth, c, Q⟩ := X
  obtain ⟨hx, hb, hml, ho, hts, hlk, hR, hK, hW⟩ := h
  obtain ⟨off, hd, ht, rfl⟩ := dd
  intro H locs ls hH hS hl
  exact lv_icmp_lt hx hb hd ht (fun q => kt q H locs ls hH hS hl) (fun q => kf q H locs ls hH hS hl)
theorem g_icmp_ge {x y : Int32} (h : Fx X w cc n own d) (dd : Dc cc pc .ge tgt pc') (kt : y ≤ x → G X w n tgt L st σ) (kf : ¬ (y ≤ x) → G X w n pc' L st σ) : G X w n pc L (.int y :: .int x :: st) σ := by
  obtain ⟨p, l, e, R, s, m, args, below, meth, c, Q⟩ := X
  obtain ⟨hx, hb, hml, ho, hts, hlk, hR, hK, hW⟩ := h
  obtain ⟨off, hd, ht, rfl⟩ := dd
  intro H locs ls hH hS hl
  exact lv_icmp_ge hx hb hd ht (fun q => kt q H locs ls hH hS hl) (fun q => kf q H locs ls hH hS hl)
theorem g_icmp_gt {x y : Int32} (h : Fx X w cc n own d) (dd : Dc cc pc .gt tgt pc') (kt : y < x → G X w n tgt L st σ) (kf : ¬ (y < x) → G X w n pc' L st σ) : G X w n pc L (.int y :: .int x :: st) σ := by
  obtain ⟨p, l, e, R, s, m, args, below, meth, c, Q⟩ := X
  obtain ⟨hx, hb, hml, ho, hts, hlk, hR, hK, hW⟩ := h
  obtain ⟨off, hd, ht, rfl⟩ := dd
  intro H locs ls hH hS hl
  exact lv_icmp_gt hx hb hd ht (fun q => kt q H locs ls hH hS hl) (fun q => kf q H locs ls hH hS hl)
theorem g_icmp_le {x y : Int32} (h : Fx X w cc n own d) (dd : Dc cc pc .le tgt pc') (kt : x ≤ y → G X w n tgt L st σ) (kf : ¬ (x ≤ y) → G X w n pc' L st σ) : G X w n pc L (.int y :: .int x :: st) σ := by
  obtain ⟨p, l, e, R, s, m, args, below, meth, c, Q⟩ := X
  obtain ⟨hx, hb, hml, ho, hts, hlk, hR, hK, hW⟩ := h
  obtain ⟨off, hd, ht, rfl⟩ := dd
  intro H locs ls hH hS hl
  exact lv_icmp_le hx hb hd ht (fun q => kt q H locs ls hH hS hl) (fun q => kf q H locs ls hH hS hl)
theorem nI0i {a : Nat} (ha : a < 2 ^ 31) : (nI a = 0 ↔ a = 0) ∧ (nI a < 0 ↔ False) ∧ (0 ≤ nI a ↔ True) ∧ (0 < nI a ↔ 0 < a) ∧ (nI a ≤ 0 ↔ a = 0) := by
  have h0 : (0 : Int32) = nI 0 := rfl
  rw [h0]
  refine ⟨nI_eq ha (by omega), ⟨fun q => absurd ((nI_ltI ha (by omega)).mp q) (by omega), False.elim⟩, ⟨fun _ => trivial, fun _ => (nI_leI (by omega) ha).mpr (Nat.zero_le a)⟩, nI_ltI (by omega) ha, ?_⟩
  rw [nI_leI ha (by omega)]
  omega
theorem g_ifN_eq {a : Nat} (h : Fx X w cc n own d) (dd : Dz cc pc .eq tgt pc') (ha : a < 2 ^ 31) (kt : a = 0 → G X w n tgt L st σ) (kf : a ≠ 0 → G X w n pc' L st σ) : G X w n pc L (.int (nI a) :: st) σ := by
  exact g_if_eq h dd (fun q => kt ((nI0i ha).1.mp q)) (fun q => kf (fun z => q ((nI0i ha).1.mpr z)))
theorem g_ifN_ne {a : Nat} (h : Fx X w cc n own d) (dd : Dz cc pc .ne tgt pc') (ha : a < 2 ^ 31) (kt : a ≠ 0 → G X w n tgt L st σ) (kf : a = 0 → G X w n pc' L st σ) : G X w n pc L (.int (nI a) :: st) σ := by
  exact g_if_ne h dd (fun q => kt (fun z => q ((nI0i ha).1.mpr z))) (fun q => kf ((nI0i ha).1.mp q))
theorem g_ifN_gt {a : Nat} (h : Fx X w cc n own d) (dd : Dz cc pc .gt tgt pc') (ha : a < 2 ^ 31) (kt : 0 < a → G X w n tgt L st σ) (kf : a = 0 → G X w n pc' L st σ) : G X w n pc L (.int (nI a) :: st) σ := by
  exact g_if_gt h dd (fun q => kt ((nI0i ha).2.2.2.1.mp q)) (fun q => kf (Nat.eq_zero_of_not_pos (fun z => q ((nI0i ha).2.2.2.1.mpr z))))
theorem g_ifN_le {a : Nat} (h : Fx X w cc n own d) (dd : Dz cc pc .le tgt pc') (ha : a < 2 ^ 31) (kt : a = 0 → G X w n tgt L st σ) (kf : 0 < a → G X w n pc' L st σ) : G X w n pc L (.int (nI a) :: st) σ := by
  exact g_if_le h dd (fun q => kt ((nI0i ha).2.2.2.2.mp q)) (fun q => kf (Nat.pos_of_ne_zero (fun z => q ((nI0i ha).2.2.2.2.mpr z))))
theorem g_ifN_lt {a : Nat} (h : Fx X w cc n own d) (dd : Dz cc pc .lt tgt pc') (ha : a < 2 ^ 31) (kf : G X w n pc' L st σ) : G X w n pc L (.int (nI a) :: st) σ := by
  exact g_if_lt h dd (fun q => absurd ((nI0i ha).2.1.mp q) id) (fun _ => kf)
theorem g_ifN_ge {a : Nat} (h : Fx X w cc n own d) (dd : Dz cc pc .ge tgt pc') (ha : a < 2 ^ 31) (kt : G X w n tgt L st σ) : G X w n pc L (.int (nI a) :: st) σ := by
  exact g_if_ge h dd (fun _ => kt) (fun q => absurd ((nI0i ha).2.2.1.mpr trivial) q)
theorem g_ifB_eq {p : Bool} (h : Fx X w cc n own d) (dd : Dz cc pc .eq tgt pc') (kt : p = false → G X w n tgt L st σ) (kf : p = true → G X w n pc' L st σ) : G X w n pc L (.int (b2i p) :: st) σ := by
  exact g_if_eq h dd (fun q => kt (b2i_0.mp q)) (fun q => kf (by cases p; exact absurd rfl q; rfl))
theorem g_ifB_ne {p : Bool} (h : Fx X w cc n own d) (dd : Dz cc pc .ne tgt pc') (kt : p = true → G X w n tgt L st σ) (kf : p = false → G X w n pc' L st σ) : G X w n pc L (.int (b2i p) :: st) σ := by
  exact g_if_ne h dd (fun q => kt (by cases p; exact absurd rfl q; rfl)) (fun q => kf (b2i_0.mp q))
theorem g_icmpN_eq {a b : Nat} (h : Fx X w cc n own d) (dd : Dc cc pc .eq tgt pc') (ha : a < 2 ^ 31) (hb : b < 2 ^ 31) (kt : a = b → G X w n tgt L st σ) (kf : a ≠ b → G X w n pc' L st σ) : G X w n pc L (.int (nI b) :: .int (nI a) :: st) σ := by
  exact g_icmp_eq h dd (fun q => kt ((nI_eq ha hb).mp q)) (fun q => kf (by have t : ¬ (a = b) := fun z => q ((nI_eq ha hb).mpr z); omega))
theorem g_icmpN_lt {a b : Nat} (h : Fx X w cc n own d) (dd : Dc cc pc .lt tgt pc') (ha : a < 2 ^ 31) (hb : b < 2 ^ 31) (kt : a < b → G X w n tgt L st σ) (kf : b ≤ a → G X w n pc' L st σ) : G X w n pc L (.int (nI b) :: .int (nI a) :: st) σ := by
  exact g_icmp_lt h dd (fun q => kt ((nI_ltI ha hb).mp q)) (fun q => kf (by have t : ¬ (a < b) := fun z => q ((nI_ltI ha hb).mpr z); omega))
theorem g_icmpN_ge {a b : Nat} (h : Fx X w cc n own d) (dd : Dc cc pc .ge tgt pc') (ha : a < 2 ^ 31) (hb : b < 2 ^ 31) (kt : b ≤ a → G X w n tgt L st σ) (kf : a < b → G X w n pc' L st σ) : G X w n pc L (.int (nI b) :: .int (nI a) :: st) σ := by
  exact g_icmp_ge h dd (fun q => kt ((nI_leI hb ha).mp q)) (fun q => kf (by have t : ¬ (b ≤ a) := fun z => q ((nI_leI hb ha).mpr z); omega))
theorem g_icmpN_gt {a b : Nat} (h : Fx X w cc n own d) (dd : Dc cc pc .gt tgt pc') (ha : a < 2 ^ 31) (hb : b < 2 ^ 31) (kt : b < a → G X w n tgt L st σ) (kf : a ≤ b → G X w n pc' L st σ) : G X w n pc L (.int (nI b) :: .int (nI a) :: st) σ := by
  exact g_icmp_gt h dd (fun q => kt ((nI_ltI hb ha).mp q)) (fun q => kf (by have t : ¬ (b < a) := fun z => q ((nI_ltI hb ha).mpr z); omega))
theorem g_icmpN_le {a b : Nat} (h : Fx X w cc n own d) (dd : Dc cc pc .le tgt pc') (ha : a < 2 ^ 31) (hb : b < 2 ^ 31) (kt : a ≤ b → G X w n tgt L st σ) (kf : b < a → G X w n pc' L st σ) : G X w n pc L (.int (nI b) :: .int (nI a) :: st) σ := by
  exact g_icmp_le h dd (fun q => kt ((nI_leI ha hb).mp q)) (fun q => kf (by have t : ¬ (a ≤ b) := fun z => q ((nI_leI ha hb).mpr z); omega))
theorem g_icmpN_ne {a b : Nat} (h : Fx X w cc n own d) (dd : Dc cc pc .ne tgt pc') (ha : a < 2 ^ 31) (hb : b < 2 ^ 31) (kt : a ≠ b → G X w n tgt L st σ) (kf : a = b → G X w n pc' L st σ) : G X w n pc L (.int (nI b) :: .int (nI a) :: st) σ := by
  exact g_icmp_ne h dd (fun q => kt (fun z => q ((nI_eq ha hb).mpr z))) (fun q => kf ((nI_eq ha hb).mp q))
theorem g_icmpB_eq {p q : Bool} (h : Fx X w cc n own d) (dd : Dc cc pc .eq tgt pc') (kt : p = q → G X w n tgt L st σ) (kf : (p != q) = true → G X w n pc' L st σ) : G X w n pc L (.int (b2i q) :: .int (b2i p) :: st) σ := by
  exact g_icmp_eq h dd (fun z => kt (by cases p <;> cases q <;> first | rfl | exact absurd z (by decide))) (fun z => kf (by cases p <;> cases q <;> first | rfl | exact absurd rfl z))
theorem g_icmpB_ne {p q : Bool} (h : Fx X w cc n own d) (dd : Dc cc pc .ne tgt pc') (kt : (p != q) = true → G X w n tgt L st σ) (kf : p = q → G X w n pc' L st σ) : G X w n pc L (.int (b2i q) :: .int (b2i p) :: st) σ := by
  exact g_icmp_ne h dd (fun z => kt (by cases p <;> cases q <;> first | rfl | exact absurd rfl z)) (fun z => kf (by cases p <;> cases q <;> first | rfl | exact absurd z (by decide)))
theorem g_goto  (h : Fx X w cc n own d) (dd : Dg cc pc tgt) (k : G X w n tgt L st σ) : G X w n pc L (st) σ := by
  obtain ⟨p, l, e, R, s, m, args, below, meth, c, Q⟩ := X
  obtain ⟨hx, hb, hml, ho, hts, hlk, hR, hK, hW⟩ := h
  obtain ⟨off, hd, ht⟩ := dd
  intro H locs ls hH hS hl
  exact lv_goto hx hb hd ht (k H locs ls hH hS hl)
theorem g_tsw {dflt lo hi : Int} {offs : Array Int} {len : Nat} {off : Int} {x : Int32} (h : Fx X w cc n own d) (dd : Dx cc pc (.tableswitch dflt lo hi offs) len pc') (y : Int32) (he : x = y) (h1 : ¬ y.toInt < lo) (h2 : ¬ hi < y.toInt) (hof : offs[(y.toInt - lo).toNat]? = some off) (ht : (pc : Int) + off = (tgt : Int)) (k : G X w n tgt L st σ) : G X w n pc L (.int x :: st) σ := by
  subst he
  obtain ⟨p, l, e, R, s, m, args, below, meth, c, Q⟩ := X
  obtain ⟨hx, hb, hml, ho, hts, hlk, hR, hK, hW⟩ := h
  obtain ⟨hd, -⟩ := dd
  intro H locs ls hH hS hl
  exact lv_tableIn hx hb hd h1 h2 hof ht (k H locs ls hH hS hl)
theorem g_tswOut {dflt lo hi : Int} {offs : Array Int} {len : Nat} {x : Int32} (h : Fx X w cc n own d) (dd : Dx cc pc (.tableswitch dflt lo hi offs) len pc') (hout : x.toInt < lo ∨ hi < x.toInt) (ht : (pc : Int) + dflt = (tgt : Int)) (k : G X w n tgt L st σ) : G X w n pc L (.int x :: st) σ := by
  obtain ⟨p, l, e, R, s, m, args, below, meth, c, Q⟩ := X
  obtain ⟨hx, hb, hml, ho, hts, hlk, hR, hK, hW⟩ := h
  obtain ⟨hd, -⟩ := dd
  intro H locs ls hH hS hl
  exact lv_tableOut hx hb hd hout ht (k H locs ls hH hS hl)
theorem g_lsw {dflt : Int} {ps : Array (Int × Int)} {len : Nat} {off : Int} {x : Int32} (h : Fx X w cc n own d) (dd : Dx cc pc (.lookupswitch dflt ps) len pc') (hp : (ps.toList.zip (ps.toList.drop 1)).all (fun (a, next) => a.1 < next.1) = true) (hof : Op.lookupswitch.offset ps.toList dflt x.toInt = off) (ht : (pc : Int) + off = (tgt : Int)) (k : G X w n tgt L st σ) : G X w n pc L (.int x :: st) σ := by
  obtain ⟨p, l, e, R, s, m, args, below, meth, c, Q⟩ := X
  obtain ⟨hx, hb, hml, ho, hts, hlk, hR, hK, hW⟩ := h
  obtain ⟨hd, -⟩ := dd
  intro H locs ls hH hS hl
  exact lv_lookup hx hb hd hp hof ht (k H locs ls hH hS hl)
theorem g_geti {idx ci j i v : Nat} {fs : List (Nat ⊕ Nat)} (h : Fx X w cc n own d) (dd : Dx cc pc (.getfield idx) 3 pc') (hf : Fq own idx ci j) (hs : Sc i (.inl (ci, fs))) (hv : fs[j]? = some (.inr v)) (k : G X w n pc' L (.int (σ v) :: st) σ) : G X w n pc L (.ref (w.1 i) :: st) σ := by
  obtain ⟨p, l, e, R, s, m, args, below, meth, c, Q⟩ := X
  obtain ⟨hx, hb, hml, ho, hts, hlk, hR, hK, hW⟩ := h
  obtain ⟨hd, rfl⟩ := dd
  obtain ⟨C, T, N, hc, hj, hC, hfl, hin⟩ := hf
  intro H locs ls hH hS hl
  exact va_get hx hb (fun c hc => hts c (List.mem_filter.mp hc).1 (List.mem_filter.mp hc).2) (fun c hc => List.mem_filter.mpr ⟨hin c hc, good_lay hc⟩) ho hK hH i (fs := fs.map (svv w σ)) (by rw [wsOf_get hs.1, hs.2]; rfl) hc j hj (hts _ hfl rfl) (fun _ q => by rw [hC] at q; exact q) (by rw [List.getElem?_map, hv]; rfl) hd (k H locs ls hH hS hl)
theorem g_getr {idx ci j i u : Nat} {fs : List (Nat ⊕ Nat)} (h : Fx X w cc n own d) (dd : Dx cc pc (.getfield idx) 3 pc') (hf : Fq own idx ci j) (hs : Sc i (.inl (ci, fs))) (hv : fs[j]? = some (.inl u)) (k : G X w n pc' L (.ref (w.1 u) :: st) σ) : G X w n pc L (.ref (w.1 i) :: st) σ := by
  obtain ⟨p, l, e, R, s, m, args, below, meth, c, Q⟩ := X
  obtain ⟨hx, hb, hml, ho, hts, hlk, hR, hK, hW⟩ := h
  obtain ⟨hd, rfl⟩ := dd
  obtain ⟨C, T, N, hc, hj, hC, hfl, hin⟩ := hf
  intro H locs ls hH hS hl
  exact va_get hx hb (fun c hc => hts c (List.mem_filter.mp hc).1 (List.mem_filter.mp hc).2) (fun c hc => List.mem_filter.mpr ⟨hin c hc, good_lay hc⟩) ho hK hH i (fs := fs.map (svv w σ)) (by rw [wsOf_get hs.1, hs.2]; rfl) hc j hj (hts _ hfl rfl) (fun _ q => by rw [hC] at q; exact q) (by rw [List.getElem?_map, hv]; rfl) hd (k H locs ls hH hS hl)
theorem g_puti {idx ci j i v : Nat} {fs : List (Nat ⊕ Nat)} {x : Int32} (h : Fx X w cc n own d) (dd : Dx cc pc (.putfield idx) 3 pc') (hf : Fp own idx ci j) (hs : Sc i (.inl (ci, fs))) (hv : fs[j]? = some (.inr v)) (k : G X w n pc' L st (upd σ v x)) : G X w n pc L (.int x :: .ref (w.1 i) :: st) σ := by
  obtain ⟨p, l, e, R, s, m, args, below, meth, c, Q⟩ := X
  obtain ⟨hx, hb, hml, ho, hts, hlk, hR, hK, hW⟩ := h
  obtain ⟨hd, rfl⟩ := dd
  obtain ⟨C, T, N, ty0, hc, hj, hC, ⟨hfl, hin⟩, hty, hnm, hfin, hint⟩ := hf
  intro H locs ls hH hS hl
  exact va_put hx hb (fun c hc => hts c (List.mem_filter.mp hc).1 (List.mem_filter.mp hc).2) (fun c hc => List.mem_filter.mpr ⟨hin c hc, good_lay hc⟩) ty0 hty hnm ho hK hH (wD hW σ) hS i (fs := fs.map (svv w σ)) (by rw [wsOf_get hs.1, hs.2]; rfl) hc j hj (hts _ hfl rfl) (fun _ q => by rw [hC] at q; exact q) hfin hint rfl rfl (by simpa using (List.getElem?_eq_some_iff.mp hv).1) hd
    (fun H1 locs1 hP1 _ hS1 => k H1 locs1 ls (Hp.put hs.1 (k := j) (by rw [hs.2]; simp [sa, hv]) hP1 (fun q => by rw [← cE_put_obj hs.1 hs.2 hv]; exact q)) hS1 hl)
theorem g_iald {i j m9 : Nat} {f : Nat → Nat} (h : Fx X w cc n own d) (dd : Dx cc pc .iaload 1 pc') (hs : Sc i (.inr (0, m9, f))) (hj : j < m9) (k : G X w n pc' L (.int (σ (f j)) :: st) σ) : G X w n pc L (.int (nI j) :: .ref (w.1 i) :: st) σ := by
  obtain ⟨p, l, e, R, s, m, args, below, meth, c, Q⟩ := X
  obtain ⟨hx, hb, hml, ho, hts, hlk, hR, hK, hW⟩ := h
  obtain ⟨hd, rfl⟩ := dd
  intro H locs ls hH hS hl
  have hm9 := sh_len hs.1 hs.2
  exact va_iald hx hb hK hH i 0 (f := fun j => σ (f j)) (by rw [wsOf_get hs.1, hs.2]; rfl) rfl (vp_in_nI hj (by omega)) hd (by simp only [nI_clamp (show j < 2 ^ 31 by omega)]; exact k H locs ls hH hS hl)
theorem g_bald {i j m9 : Nat} {f : Nat → Nat} (h : Fx X w cc n own d) (dd : Dx cc pc .baload 1 pc') (hs : Sc i (.inr (1, m9, f))) (hj : j < m9) (k : G X w n pc' L (.int (σ (f j)) :: st) σ) : G X w n pc L (.int (nI j) :: .ref (w.1 i) :: st) σ := by
  obtain ⟨p, l, e, R, s, m, args, below, meth, c, Q⟩ := X
  obtain ⟨hx, hb, hml, ho, hts, hlk, hR, hK, hW⟩ := h
  obtain ⟨hd, rfl⟩ := dd
  intro H locs ls hH hS hl
  have hm9 := sh_len hs.1 hs.2
  exact va_bald hx hb hK hH i 1 (f := fun j => σ (f j)) (by rw [wsOf_get hs.1, hs.2]; rfl) rfl (vp_in_nI hj (by omega)) hd (by simp only [nI_clamp (show j < 2 ^ 31 by omega)]; exact k H locs ls hH hS hl)
theorem g_aald {i j m9 : Nat} {f : Nat → Nat} (h : Fx X w cc n own d) (dd : Dx cc pc .aaload 1 pc') (hs : Sc i (.inr (2, m9, f))) (hj : j < m9) (k : G X w n pc' L (.ref (w.1 (f j)) :: st) σ) : G X w n pc L (.int (nI j) :: .ref (w.1 i) :: st) σ := by
  obtain ⟨p, l, e, R, s, m, args, below, meth, c, Q⟩ := X
  obtain ⟨hx, hb, hml, ho, hts, hlk, hR, hK, hW⟩ := h
  obtain ⟨hd, rfl⟩ := dd
  intro H locs ls hH hS hl
  have hm9 := sh_len hs.1 hs.2
  exact va_aldq hx hb hK hH i 2 (f := fun j => some (w.1 (f j))) (by rw [wsOf_get hs.1, hs.2]; rfl) rfl (vp_in_nI hj (by omega)) hd (by simp only [nI_clamp (show j < 2 ^ 31 by omega)]; exact k H locs ls hH hS hl)
theorem g_iast {i j m9 : Nat} {f : Nat → Nat} {x : Int32} (h : Fx X w cc n own d) (dd : Dx cc pc .iastore 1 pc') (hs : Sc i (.inr (0, m9, f))) (hj : j < m9) (k : G X w n pc' L st (upd σ (f j) x)) : G X w n pc L (.int x :: .int (nI j) :: .ref (w.1 i) :: st) σ := by
  obtain ⟨p, l, e, R, s, m, args, below, meth, c, Q⟩ := X
  obtain ⟨hx, hb, hml, ho, hts, hlk, hR, hK, hW⟩ := h
  obtain ⟨hd, rfl⟩ := dd
  intro H locs ls hH hS hl
  have hm9 := sh_len hs.1 hs.2
  exact va_iast hx hb hK hH (wD hW σ) hS i 0 (f := fun j => σ (f j)) (by rw [wsOf_get hs.1, hs.2]; rfl) rfl (vp_in_nI hj (by omega)) hd
    (fun H1 locs1 hP1 _ hS1 => k H1 locs1 ls (Hp.put hs.1 (k := j) (by rw [hs.2]; simp [sa, hj]) hP1 (fun q => cE_put_arr hs.1 hs.2 (by decide) hj (by rw [nI_clamp (show j < 2 ^ 31 by omega)] at q; exact q))) hS1 hl)
theorem g_bast {i j m9 : Nat} {f : Nat → Nat} {x : Int32} (h : Fx X w cc n own d) (dd : Dx cc pc .bastore 1 pc') (hs : Sc i (.inr (1, m9, f))) (hj : j < m9) (k : G X w n pc' L st (upd σ (f j) (vp_nar .byte x))) : G X w n pc L (.int x :: .int (nI j) :: .ref (w.1 i) :: st) σ := by
  obtain ⟨p, l, e, R, s, m, args, below, meth, c, Q⟩ := X
  obtain ⟨hx, hb, hml, ho, hts, hlk, hR, hK, hW⟩ := h
  obtain ⟨hd, rfl⟩ := dd
  intro H locs ls hH hS hl
  have hm9 := sh_len hs.1 hs.2
  exact va_bast hx hb hK hH (wD hW σ) hS i 1 (f := fun j => σ (f j)) (by rw [wsOf_get hs.1, hs.2]; rfl) rfl (vp_in_nI hj (by omega)) hd
    (fun H1 locs1 hP1 _ hS1 => k H1 locs1 ls (Hp.put hs.1 (k := j) (by rw [hs.2]; simp [sa, hj]) hP1 (fun q => cE_put_arr hs.1 hs.2 (by decide) hj (by rw [nI_clamp (show j < 2 ^ 31 by omega)] at q; exact q))) hS1 hl)
theorem g_alen0 {i m9 : Nat} {f : Nat → Nat} (h : Fx X w cc n own d) (dd : Dx cc pc .arraylength 1 pc') (hs : Sc i (.inr (0, m9, f))) (k : G X w n pc' L (.int (nI m9) :: st) σ) : G X w n pc L (.ref (w.1 i) :: st) σ := by
  obtain ⟨p, l, e, R, s, m, args, below, meth, c, Q⟩ := X
  obtain ⟨hx, hb, hml, ho, hts, hlk, hR, hK, hW⟩ := h
  obtain ⟨hd, rfl⟩ := dd
  intro H locs ls hH hS hl
  exact va_alen hx hb hK hH i 0 (x := (m9, .inl fun j => σ (f j))) (by rw [wsOf_get hs.1, hs.2]; rfl) (ty := .int) rfl rfl hd (k H locs ls hH hS hl)
theorem g_alen1 {i m9 : Nat} {f : Nat → Nat} (h : Fx X w cc n own d) (dd : Dx cc pc .arraylength 1 pc') (hs : Sc i (.inr (1, m9, f))) (k : G X w n pc' L (.int (nI m9) :: st) σ) : G X w n pc L (.ref (w.1 i) :: st) σ := by
  obtain ⟨p, l, e, R, s, m, args, below, meth, c, Q⟩ := X
  obtain ⟨hx, hb, hml, ho, hts, hlk, hR, hK, hW⟩ := h
  obtain ⟨hd, rfl⟩ := dd
  intro H locs ls hH hS hl
  exact va_alen hx hb hK hH i 1 (x := (m9, .inl fun j => σ (f j))) (by rw [wsOf_get hs.1, hs.2]; rfl) (ty := .byte) rfl rfl hd (k H locs ls hH hS hl)
end GI
