/-! the layer: a method's walk over one memory -/
def svv (w : Wd) (σ : Mem) : Nat ⊕ Nat → Value
  | .inl c => .ref (w.1 c)
  | .inr v => .int (σ v)
def cE (w : Wd) (σ : Mem) : Sh → va_E
  | .inl (ci, fs) => .inr (ci, fs.map (svv w σ))
  | .inr (t, n, f) => if t = 2 then .inl (w.2.2.1.2.2, n, .inr (.inr (.inr (.inr fun j => some (w.1 (f j)))))) else .inl (if t = 1 then w.2.2.1.2.1 else w.2.2.1.1, n, .inl fun j => σ (f j))
def wsOf (w : Wd) (σ : Mem) : va_W := (List.range 131).map fun i => (w.1 i, cE w σ (sh i))
def wA (w : Wd) : Nat → Prop := fun q => ∃ i, i < 131 ∧ q = w.1 i
def Wi (w : Wd) : Prop := ∀ i j, i < 131 → j < 131 → w.1 i = w.1 j → i = j
def Hp (w : Wd) (σ : Mem) (H : Heap) : Prop := va_P w.2.1 vwCl (wsOf w σ) H
theorem wsOf_get {w : Wd} {σ : Mem} {i : Nat} (hi : i < 131) : (wsOf w σ)[i]? = some (w.1 i, cE w σ (sh i)) := by
  simp [wsOf, List.getElem?_map, List.getElem?_range hi]
theorem wsOf_inv {w : Wd} {σ : Mem} {i : Nat} {q : Nat × va_E} (h : (wsOf w σ)[i]? = some q) : i < 131 ∧ q = (w.1 i, cE w σ (sh i)) := by
  have hl := (List.getElem?_eq_some_iff.mp h).1
  have hi : i < 131 := by simpa [wsOf] using hl
  rw [wsOf_get hi] at h
  exact ⟨hi, (Option.some.inj h).symm⟩
theorem wD {w : Wd} (hW : Wi w) (σ : Mem) : va_D (wA w) (wsOf w σ) := by
  refine ⟨fun i j p q hi hj hpq => ?_, fun k q hk => ?_⟩
  · obtain ⟨h1, rfl⟩ := wsOf_inv hi
    obtain ⟨h2, rfl⟩ := wsOf_inv hj
    exact hW i j h1 h2 hpq
  · obtain ⟨h1, rfl⟩ := wsOf_inv hk
    exact ⟨k, h1, rfl⟩
theorem cell_congr {c : ClassId} {n : Nat} {f g : Nat → Int32} (h : ∀ j, j < n → f j = g j) : vp_cell c (n, .inl f) = vp_cell c (n, .inl g) := by
  rw [vp_cell_i, vp_cell_i]
  unfold arrV
  congr 1
  apply Array.ext
  · simp
  · intro i h1 h2
    simp at h1
    simp [h i h1]
theorem cE_arr {w : Wd} {σ : Mem} {t n a : Nat} {f : Nat → Nat} {H : Heap} (ht : t ≠ 2) : va_at w.2.1 vwCl (a, cE w σ (.inr (t, n, f))) H ↔ H[a]? = some (vp_cell (if t = 1 then w.2.2.1.2.1 else w.2.2.1.1) (n, .inl fun j => σ (f j))) := by
  simp only [cE, ht, if_false, va_at]
theorem cE_same {w : Wd} {σ : Mem} {s : Sh} {v a : Nat} {x : Int32} {H : Heap} (hn : ∀ k, sa s k ≠ some v) (h : va_at w.2.1 vwCl (a, cE w σ s) H) : va_at w.2.1 vwCl (a, cE w (upd σ v x) s) H := by
  obtain ⟨ci, fs⟩ | ⟨t, n, f⟩ := s
  · have e : fs.map (svv w (upd σ v x)) = fs.map (svv w σ) := by
      apply List.map_congr_left
      intro q hq
      obtain c | u := q
      · rfl
      · have hne : u ≠ v := by
          intro e
          subst e
          obtain ⟨k, hk⟩ := List.getElem?_of_mem hq
          exact hn k (by simp [sa, hk])
        simp [svv, upd, hne]
    show va_at w.2.1 vwCl (a, .inr (ci, fs.map (svv w (upd σ v x)))) H
    rw [e]
    exact h
  · by_cases ht : t = 2
    · subst ht
      exact h
    · rw [cE_arr ht] at h ⊢
      rw [h, cell_congr]
      intro j hj
      have hne : f j ≠ v := fun e => hn j (by simp [sa, ht, hj, e])
      simp [upd, hne]
/-- one slot is written -/
theorem Hp.put {w : Wd} {σ : Mem} {H1 : Heap} {i k v : Nat} {x : Int32} {e : va_E} (hi : i < 131) (hk : sa (sh i) k = some v) (hP : va_P w.2.1 vwCl ((wsOf w σ).set i (w.1 i, e)) H1) (he : va_at w.2.1 vwCl (w.1 i, e) H1 → va_at w.2.1 vwCl (w.1 i, cE w (upd σ v x) (sh i)) H1) : Hp w (upd σ v x) H1 := by
  intro j q hj
  obtain ⟨h1, rfl⟩ := wsOf_inv hj
  have hl : i < (wsOf w σ).length := by simpa [wsOf] using hi
  by_cases hji : j = i
  · subst hji
    exact he (hP j _ (List.getElem?_set_self hl))
  · have h2 := hP j (w.1 j, cE w σ (sh j)) (by rw [List.getElem?_set_ne (Ne.symm hji)]; exact wsOf_get h1)
    refine cE_same (fun k' hk' => ?_) h2
    have e1 := inv_sa hi hk
    rw [inv_sa h1 hk'] at e1
    exact hji (congrArg Prod.fst e1)
theorem cE_put_obj {w : Wd} {σ : Mem} {i k v ci : Nat} {x : Int32} {fs : List (Nat ⊕ Nat)} (hi : i < 131) (hs : sh i = .inl (ci, fs)) (hk : fs[k]? = some (.inr v)) : (.inr (ci, (fs.map (svv w σ)).set k (.int x)) : va_E) = cE w (upd σ v x) (sh i) := by
  rw [hs]
  show (.inr (ci, _) : va_E) = .inr (ci, fs.map (svv w (upd σ v x)))
  congr 2
  apply List.ext_getElem?
  intro j
  by_cases hj : j = k
  · subst hj
    have hl : j < (fs.map (svv w σ)).length := by simpa using (List.getElem?_eq_some_iff.mp hk).1
    rw [List.getElem?_set_self hl, List.getElem?_map, hk]
    simp [svv, upd]
  · rw [List.getElem?_set_ne (Ne.symm hj), List.getElem?_map, List.getElem?_map]
    cases hq : fs[j]? with
    | none => rfl
    | some q =>
      obtain c | u := q
      · rfl
      · have hne : u ≠ v := by
          intro e
          subst e
          have e1 := inv_sa (k := k) (v := u) hi (by rw [hs]; simp [sa, hk])
          rw [inv_sa (k := j) (v := u) hi (by rw [hs]; simp [sa, hq])] at e1
          exact hj (congrArg Prod.snd e1)
        simp [svv, upd, hne]
theorem cE_put_arr {w : Wd} {σ : Mem} {i k t n : Nat} {x : Int32} {f : Nat → Nat} {H : Heap} (hi : i < 131) (hs : sh i = .inr (t, n, f)) (ht : t ≠ 2) (hk : k < n) (h : va_at w.2.1 vwCl (w.1 i, .inl (if t = 1 then w.2.2.1.2.1 else w.2.2.1.1, n, .inl (upd (fun j => σ (f j)) k x))) H) : va_at w.2.1 vwCl (w.1 i, cE w (upd σ (f k) x) (sh i)) H := by
  rw [hs, cE_arr ht]
  have h' : H[w.1 i]? = some (vp_cell (if t = 1 then w.2.2.1.2.1 else w.2.2.1.1) (n, .inl (upd (fun j => σ (f j)) k x))) := h
  rw [h', cell_congr]
  intro j hj
  by_cases e : j = k
  · subst e; simp [upd]
  · have hne : f j ≠ f k := by
      intro e2
      have e1 := inv_sa (k := k) (v := f k) hi (by rw [hs]; simp [sa, ht, hk])
      rw [inv_sa (k := j) (v := f k) hi (by rw [hs]; simp [sa, ht, hj, e2])] at e1
      exact e (congrArg Prod.snd e1)
    simp [upd, e, hne]
def wT (w : Wd) : List (ClassId × FieldType) := [(w.2.2.1.1, .int), (w.2.2.1.2.1, .byte), (w.2.2.1.2.2, .object RX5)]
def Kc (w : Wd) (U : State) : Prop := va_K w.2.1 vwCl (wT w) U
theorem Kc.warm {w : Wd} {s U : State} {H1 : Heap} {locs : List Loc} (h : Kc w s) (hW : s.WarmedH U.vm) (hS : va_S (wA w) s.heap H1 locs) (hU : U.heap = H1) : Kc w U := va_K.moved hW.alike h
theorem Kc.blind {w : Wd} {U : State} {g : JFrame} {mk : MethodId} {a : Array Value} (h : Kc w U) : Kc w (U.calling g mk a) := va_K.moved (u := U) (U := U.calling g mk a) (Vm.Alike.refl U.vm) h
/-! the judgement -/
abbrev GX : Type := Program × Launch × Env × Room × State × MethodId × Array Value × List Frame × Method × Code × (State → Prop)
def rmN (d : Nat) : Room := { frames := d, cells := 0, slots := 0, locals := 36 * d }
def G (X : GX) (w : Wd) (n pc : Nat) (L : List (Nat × Value)) (st : List Value) (σ : Mem) : Prop :=
  ∀ (H : Heap) (locs : List Loc) (ls : Array Slot), Hp w σ H → va_S (wA w) X.2.2.2.2.1.heap H locs → lv_has ls n L →
    W X.1 X.2.1 X.2.2.1 X.2.2.2.1 X.2.2.2.2.1 X.2.2.2.2.2.1 X.2.2.2.2.2.2.1 X.2.2.2.2.2.2.2.1 X.2.2.2.2.2.2.2.2.1 X.2.2.2.2.2.2.2.2.2.1 H locs 0 0 X.2.2.2.2.2.2.2.2.2.2 (F0 X.2.2.2.2.2.1 pc ls st)
/-- what holds of a method's frame -/
def Fx (X : GX) (w : Wd) (cc : ByteArray) (n : Nat) (own : String) (d : Nat) : Prop :=
  X.1.tables.exec = Jvm.exec ∧ X.2.2.2.2.2.2.2.2.2.1.code = cc ∧ X.2.2.2.2.2.2.2.2.2.1.maxLocals = n ∧ X.2.2.2.2.1.vm.findClass own = some X.2.2.2.2.2.1.cls ∧
  (∀ c ∈ lw_tbl, goodWord c = true → c.before X.2.2.2.2.2.2.1 X.2.2.2.2.1 = true) ∧ X.2.2.2.2.2.2.2.2.1.locks = false ∧ X.2.2.2.1 = rmN d ∧ Kc w X.2.2.2.2.1 ∧ Wi w
def QcOf (w : Wd) (v : Option Value) (P : Mem → Prop) : Array Value → State → Outcome → State → Prop := fun _ st oc t => (oc = .returned v ∧ ∃ σ', P σ' ∧ Hp w σ' t.heap) ∧ va_F (wA w) st t
/-- what a method comes to: its answer, what holds of the memory behind it -/
def Qx (X : GX) (w : Wd) (r : Option FieldType) (v : Option Value) (P : Mem → Prop) : Prop :=
  X.2.2.2.2.2.2.2.2.2.2 = MQ X.2.2.2.2.2.2.2.1 (QcOf w v P) X.2.2.2.2.2.2.1 X.2.2.2.2.1 0 0 (wA w) ∧ X.2.2.2.2.2.2.2.2.1.sig.returnType = r
def wsq (q : Mq) : List Cond := .code q.1 q.2.1 q.2.2.1 q.2.2.2 :: lw_tbl.filter goodWord
/-- a method's contract: with arguments av, in a memory σ, it answers v and leaves a memory of P; d levels deep -/
def MC (l : Launch) (w : Wd) (q : Mq) (d : Nat) (av : List Value) (σ : Mem) (v : Option Value) (P : Mem → Prop) : Prop :=
  Met l q.1 (wsq q) (rmN d) (fun a U => a = av.toArray ∧ Hp w σ U.heap ∧ Kc w U) (QcOf w v P) 0 0 (wA w)
theorem MC.of {l : Launch} {w : Wd} {q : Mq} {d : Nat} {av : List Value} {σ : Mem} {v : Option Value} {P : Mem → Prop} (hW : Wi w) (hpl : plainName q.1.cls = true) (hn : (lg_sl av).length ≤ q.2.2.1)
    (body : ∀ X : GX, Fx X w q.2.1 q.2.2.1 q.1.cls d → Qx X w q.2.2.2 v P → X.2.2.2.2.2.2.2.2.1.name = q.1.name → G X w q.2.2.1 0 (lv_args 0 av) [] σ) : MC l w q d av σ v P := by
  refine Met.ofW (cc := q.2.1) (maxL := q.2.2.1) (ret := q.2.2.2) hpl rfl ?_
  intro p e s m args below meth c s₁ B hml hv
  obtain ⟨rfl, hP, hK⟩ := hv
  have hts := atoms_spec (ws := wsq q) B.pre
  have h := body (p, l, e, rmN d, s, m, av.toArray, below, meth, c, MQ below (QcOf w v P) av.toArray s 0 0 (wA w))
    ⟨B.exec, B.bytes, hml, findClass_of_methodNamed B.named, fun c hc hg => hts c (List.mem_cons_of_mem _ (List.mem_filter.mpr ⟨hc, hg⟩)), B.notSynchronized, rfl, hK, hW⟩ ⟨rfl, B.returns⟩ (name_of_methodNamed B.named B.method).1
  have hl := lv_entry av (n := q.2.2.1) hn
  rw [lg_entry_eq]
  exact h s.heap [] _ hP va_S.rf hl
/-! returns -/
section GR
variable {X : GX} {w : Wd} {cc : ByteArray} {n pc pc' d : Nat} {own : String} {L : List (Nat × Value)} {σ : Mem} {P : Mem → Prop}
theorem g_iret {v : Int32} {v' : Option Value} (h : Fx X w cc n own d) (hQ : Qx X w (some .int) v' P) (dd : Dx cc pc .ireturn 1 pc') (hv : v' = some (.int v)) (hP : P σ) : G X w n pc L [.int v] σ := by
  subst hv
  obtain ⟨p, l, e, R, s, m, args, below, meth, c, Q⟩ := X
  obtain ⟨hx, hb, hml, ho, hts, hlk, hR, hK, hW⟩ := h
  obtain ⟨hq, hr⟩ := hQ
  intro H locs ls hH hS hl
  simp only at hx hb hml ho hts hlk hR hK hq hr hS ⊢
  rw [hq]
  exact W.iret hx hb hr (fun t ht hW => ⟨⟨rfl, σ, hP, by rw [ht]; exact hH⟩, hS.F ht⟩) hS.2.2 dd.1 hlk
theorem g_zret {v : Int32} {v' : Option Value} {ty : FieldType} (h : Fx X w cc n own d) (hQ : Qx X w (some ty) v' P) (dd : Dx cc pc .ireturn 1 pc') (hn : narrow ty (.int v) = .int v) (hv : v' = some (.int v)) (hP : P σ) : G X w n pc L [.int v] σ := by
  subst hv
  obtain ⟨p, l, e, R, s, m, args, below, meth, c, Q⟩ := X
  obtain ⟨hx, hb, hml, ho, hts, hlk, hR, hK, hW⟩ := h
  obtain ⟨hq, hr⟩ := hQ
  intro H locs ls hH hS hl
  simp only at hx hb hml ho hts hlk hR hK hq hr hS ⊢
  rw [hq]
  exact W.zret hx hb hr hn (fun t ht hW => ⟨⟨rfl, σ, hP, by rw [ht]; exact hH⟩, hS.F ht⟩) hS.2.2 dd.1 hlk
theorem g_vret {v' : Option Value} (h : Fx X w cc n own d) (hQ : Qx X w none v' P) (dd : Dx cc pc .return_ 1 pc') (hv : v' = none) (hP : P σ) : G X w n pc L [] σ := by
  subst hv
  obtain ⟨p, l, e, R, s, m, args, below, meth, c, Q⟩ := X
  obtain ⟨hx, hb, hml, ho, hts, hlk, hR, hK, hW⟩ := h
  obtain ⟨hq, hr⟩ := hQ
  intro H locs ls hH hS hl
  simp only at hx hb hml ho hts hlk hR hK hq hr hS ⊢
  rw [hq]
  exact W.vret hx hb hr (fun t ht hW => ⟨⟨rfl, σ, hP, by rw [ht]; exact hH⟩, hS.F ht⟩) hS.2.2 dd.1 hlk
end GR
