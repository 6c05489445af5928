/-! constructors -/
theorem wd_int : Cond.arrayClass .int ∈ lw_tbl := tm1 (List.mem_of_getElem? (i := 80) (by decide +kernel))
theorem wd_byte : Cond.arrayClass .byte ∈ lw_tbl := tm1 (List.mem_of_getElem? (i := 79) (by decide +kernel))
theorem wd_over : Cond.arrayOver (.object RX5) ∈ lw_tbl := tm1 (List.mem_of_getElem? (i := 218) (by decide +kernel))
theorem wd_oi : Cond.instanceMethod ⟨"java/lang/Object", "<init>", "()V"⟩ ∈ lw_tbl := tm1 (List.mem_of_getElem? (i := 28) (by decide +kernel))
theorem wd_oc : Cond.code ⟨"java/lang/Object", "<init>", "()V"⟩ ⟨#[0xb1]⟩ 1 none ∈ lw_tbl := tm1 (List.mem_of_getElem? (i := 29) (by decide +kernel))
section SQ
variable {X : GX} {D : va_G} {tys : TYS} {A : Nat → Prop} {cc : ByteArray} {n pc pc' tgt d mc ms k N : Nat} {own : String} {L L' : List (Nat × Value)} {st : List Value} {ws : va_W}
theorem sg_alen {q0 t0 a Z : Nat} {cA : ClassId} {f : Nat → Int32} (h : FxS X D tys cc n own d mc ms) (dd : Dx cc pc .arraylength 1 pc') (ht : tys[t0]? = some (cA, .int)) (he : ws[q0]? = some (a, .inl (cA, Z, .inl f))) (kk : SG X D A n pc' L (.int (nI Z) :: st) ws k N) : SG X D A n pc L (.ref a :: st) ws k N := by
  obtain ⟨p, l, e, R, s, m, args, below, meth, c, Q⟩ := X
  obtain ⟨hx, hb, hml, ho, hts, hlks, hR, hK⟩ := h
  obtain ⟨hd, rfl⟩ := dd
  intro hA H locs ls hP hD hS hl
  exact va_alen hx hb hK hP q0 t0 (x := (Z, .inl f)) he ht rfl hd (kk hA H locs ls hP hD hS hl)
/-- the cells, in another order -/
theorem sg_perm {ws' : va_W} (is : List Nat) (hs : is.map (fun i => ws[i]?) = ws'.map some) (hn : va_nd is = true) (kk : SG X D A n pc L st ws' k N) : SG X D A n pc L st ws k N :=
  fun hA H locs ls hP hD hS hl => kk hA H locs ls (sub_P hP is hs) (hD.sub is hn hs) hS hl
theorem sg_newq {idx t0 Z : Nat} {cA : ClassId} {C : String} (h : FxS X D tys cc n own d mc ms) (dd : Dx cc pc (.anewarray idx) 3 pc') (hcl9 : Cond.classLink own idx C ∈ lw_tbl) (hao : va_AO C X.2.2.2.2.1) (ht : tys[t0]? = some (cA, .object C)) (hZ : Z < 4000) (hcl : k + 1 ≤ mc) (hsl : N + Z ≤ ms)
    (kk : ∀ q, SG X D A n pc' L (.ref q :: st) (ws ++ [(q, .inl (cA, Z, .inr (.inr (.inr (.inr fun _ => none)))))]) (k + 1) (N + Z)) : SG X D A n pc L (.int (nI Z) :: st) ws k N := by
  obtain ⟨p, l, e, R, s, m, args, below, meth, c, Q⟩ := X
  obtain ⟨hx, hb, hml, ho, hts, hlks, hR, hK⟩ := h
  obtain ⟨hd, rfl⟩ := dd
  have hR' : R = rmC d mc ms := hR
  subst hR'
  have e1 : (nI Z).toNatClampNeg = Z := nI_clamp (by omega)
  intro hA H locs ls hP hD hS hl
  obtain ⟨kA, comp, -, -, -, hcA⟩ := (hK.2 t0 _ ht).2
  refine va_newq hx hb ho (hts _ hcl9 rfl) hao hK hP hD hS hA (nI_pos (by omega)) e1 (by omega) hcl hsl hd (fun q cB H1 hK1 hP1 hD1 hS1 => ?_)
  have hcB : cB = cA := by
    obtain ⟨kB, comp2, -, -, -, h3⟩ := (hK1.2 tys.length (cB, .object C) (by simp)).2
    exact Option.some.inj (h3.symm.trans hcA)
  subst hcB
  exact kk q hA H1 locs ls hP1 hD1 hS1 hl
theorem sg_aast {q0 t0 qk ci a i v Z : Nat} {cA : ClassId} {r : vw_C} {vs : List Value} {f : Nat → Option Nat} (h : FxS X D tys cc n own d mc ms) (dd : Dx cc pc .aastore 1 pc') (he : ws[q0]? = some (a, .inl (cA, Z, .inr (.inr (.inr (.inr f)))))) (ht : tys[t0]? = some (cA, .object r.1)) (hv : ws[qk]? = some (v, .inr (ci, vs))) (hc : vwCl[ci]? = some r) (hi : i < Z) (hZ : Z < 4000)
    (kk : SG X D A n pc' L st (ws.set q0 (a, .inl (cA, Z, .inr (.inr (.inr (.inr (va_up f i (some v)))))))) k N) : SG X D A n pc L (.ref v :: .int (nI i) :: .ref a :: st) ws k N := by
  obtain ⟨p, l, e, R, s, m, args, below, meth, c, Q⟩ := X
  obtain ⟨hx, hb, hml, ho, hts, hlks, hR, hK⟩ := h
  obtain ⟨hd, rfl⟩ := dd
  intro hA H locs ls hP hD hS hl
  have e1 : (nI i).toNatClampNeg = i := nI_clamp (by omega)
  exact va_astq hx hb hK hP hD hS q0 t0 qk ci he ht hv hc (vp_in_nI hi (by omega)) hd (fun H1 locs1 hP1 hD1 hS1 => kk hA H1 locs1 ls (by rw [e1] at hP1; exact hP1) (by rw [e1] at hD1; exact hD1) hS1 hl)
end SQ
def tyL (cI cB cM : ClassId) : TYS := [(cI, .int), (cB, .byte), (cM, .object RX5)]
theorem z_upd {i : Nat} : upd (fun _ => nI 0) i (nI 0) = fun _ => nI 0 := by
  funext j
  unfold upd
  split <;> rfl
theorem nc_fill {l : Launch} {D : va_G} {cI cB cM : ClassId} (a Z : Nat) (hZ : Z < 4000) : NC l D (tyL cI cB cM) qJ7_fill_53178 0 0 0 [.ref a, .int (nI 0)] [(a, .inl (cI, Z, .inl fun _ => nI 0))] (fun u => u = [(a, .inl (cI, Z, .inl fun _ => nI 0))]) := by
  refine NC.of rfl (by decide +kernel) (Nat.le_of_ble_eq_true rfl) (fun X A hl h hQ hnm => ?_)
  subst hl
  have h : FxS X D (tyL cI cB cM) cJ7_fill_53178 4 RJ7 0 0 0 := h
  have hQ : QxS X D (tyL cI cB cM) A (fun u => u = [(a, .inl (cI, Z, .inl fun _ => nI 0))]) 0 0 := hQ
  show SG X D A 4 0 [(0, .ref a), (1, .int (nI 0))] [] [(a, .inl (cI, Z, .inl fun _ => nI 0))] 0 0
  refine sg_iconst h dJ7_fill_53178_0 (by decide) ?_
  refine sg_istore_n (L' := [(0, .ref a), (1, .int (nI 0)), (2, .int (nI 0))]) h dJ7_fill_53178_1 rfl (by decide) rfl ?_
  refine sg_aload_n h dJ7_fill_53178_2 0 rfl ?_
  refine sg_alen (q0 := 0) (t0 := 0) h dJ7_fill_53178_3 rfl rfl ?_
  refine sg_istore_n (L' := [(0, .ref a), (1, .int (nI 0)), (2, .int (nI 0)), (3, .int (nI Z))]) h dJ7_fill_53178_4 rfl (by decide) rfl ?_
  have lp : ∀ (k9 i : Nat), i ≤ Z → Z - i < k9 → SG X D A 4 5 [(0, .ref a), (1, .int (nI 0)), (2, .int (nI i)), (3, .int (nI Z))] [] [(a, .inl (cI, Z, .inl fun _ => nI 0))] 0 0 := by
    intro k9
    induction k9 with
    | zero => intro i _ h9; exact absurd h9 (Nat.not_lt_zero _)
    | succ k9 ih =>
      intro i hi h9
      refine sg_iload_n h dJ7_fill_53178_5 2 rfl ?_
      refine sg_iload_n h dJ7_fill_53178_6 3 rfl ?_
      refine sg_icmp_ge h dJ7_fill_53178_7 (fun c => ?_) (fun c => ?_)
      · exact sg_vret h hQ dJ7_fill_53178_20 rfl
      · have hlt : i < Z := Nat.not_le.mp fun q => c ((nI_leq (by omega) (by omega)).mpr q)
        refine sg_aload_n h dJ7_fill_53178_10 0 rfl ?_
        refine sg_iload_n h dJ7_fill_53178_11 2 rfl ?_
        refine sg_iload_n h dJ7_fill_53178_12 1 rfl ?_
        refine sg_iast (q0 := 0) (t0 := 0) h dJ7_fill_53178_13 rfl rfl hlt hZ ?_
        refine sg_ws (ws' := [(a, .inl (cI, Z, .inl fun _ => nI 0))]) (by rw [z_upd]; rfl) ?_
        refine sg_iinc (b := 1) (L' := [(0, .ref a), (1, .int (nI 0)), (2, .int (nI (i + 1))), (3, .int (nI Z))]) h dJ7_fill_53178_14 2 rfl rfl (by decide) (by decide) rfl ?_
        refine sg_goto h dJ7_fill_53178_17 ?_
        exact ih (i + 1) (by omega) (by omega)
  exact lp (Z + 1) 0 (Nat.zero_le _) (by omega)

set_option maxRecDepth 100000 in
set_option maxHeartbeats 4000000 in
theorem nc_X3 {l : Launch} {D : va_G} {cI cB cM : ClassId} (h0 : Nat) : NC l D (tyL cI cB cM) qX3_init 1 6 160 [.ref h0] [(h0, .inr (3, [.null, .null, .null, .null, .null, .null]))] (fun u => ∃ q1 q2 q3 q4 q5 q6 : Nat, u = [(h0, .inr (3, [.ref q1, .ref q2, .ref q3, .ref q4, .ref q5, .ref q6])), (q1, .inl (cI, 64, .inl (fun _ => nI 0))), (q2, .inl (cI, 64, .inl (fun _ => nI 0))), (q3, .inl (cI, 8, .inl (fun _ => nI 0))), (q4, .inl (cI, 8, .inl (fun _ => nI 0))), (q5, .inl (cI, 8, .inl (fun _ => nI 0))), (q6, .inl (cI, 8, .inl (fun _ => nI 0)))]) := by
  refine NC.of rfl (by decide +kernel) (Nat.le_of_ble_eq_true rfl) (fun X A hl h hQ hnm => ?_)
  subst hl
  have h : FxS X D (tyL cI cB cM) cX3_init 1 RX3 1 6 160 := h
  have hQ : QxS X D (tyL cI cB cM) A (fun u => ∃ q1 q2 q3 q4 q5 q6 : Nat, u = [(h0, .inr (3, [.ref q1, .ref q2, .ref q3, .ref q4, .ref q5, .ref q6])), (q1, .inl (cI, 64, .inl (fun _ => nI 0))), (q2, .inl (cI, 64, .inl (fun _ => nI 0))), (q3, .inl (cI, 8, .inl (fun _ => nI 0))), (q4, .inl (cI, 8, .inl (fun _ => nI 0))), (q5, .inl (cI, 8, .inl (fun _ => nI 0))), (q6, .inl (cI, 8, .inl (fun _ => nI 0)))]) 6 160 := hQ
  have hnm : X.2.2.2.2.2.2.2.2.1.name = "<init>" := hnm
  show SG X D A 1 0 [(0, .ref h0)] [] [(h0, .inr (3, [.null, .null, .null, .null, .null, .null]))] 0 0
  refine sg_aload_n h dX3_init_0 0 rfl ?_
  refine sg_objInit h dX3_init_1 mX3_3 wd_oi wd_oc (by decide) rfl ?_
  refine sg_aload_n h dX3_init_4 0 rfl ?_
  refine sg_bipush h dX3_init_5 (by decide) ?_
  refine sg_newa (ty := .int) (t0 := 0) (cA := cI) h dX3_init_7 rfl wd_int rfl rfl (Or.inl rfl) (by decide) (Nat.le_of_ble_eq_true rfl) (Nat.le_of_ble_eq_true rfl) (fun q7 => ?_)
  refine sg_ws (ws' := [(h0, .inr (3, [.null, .null, .null, .null, .null, .null])), (q7, .inl (cI, 64, .inl (fun _ => nI 0)))]) rfl ?_
  refine sg_putF (q0 := 0) h dX3_init_9 fX3_9 rfl (by decide) rfl okX3 nmX3 rfl  hnm rfl (okX3 0 (by decide)) rfl rfl rfl (Nat.le_of_ble_eq_true rfl) ?_
  refine sg_ws (ws' := [(h0, .inr (3, [.ref q7, .null, .null, .null, .null, .null])), (q7, .inl (cI, 64, .inl (fun _ => nI 0)))]) rfl ?_
  refine sg_aload_n h dX3_init_12 0 rfl ?_
  refine sg_bipush h dX3_init_13 (by decide) ?_
  refine sg_newa (ty := .int) (t0 := 0) (cA := cI) h dX3_init_15 rfl wd_int rfl rfl (Or.inl rfl) (by decide) (Nat.le_of_ble_eq_true rfl) (Nat.le_of_ble_eq_true rfl) (fun q15 => ?_)
  refine sg_ws (ws' := [(h0, .inr (3, [.ref q7, .null, .null, .null, .null, .null])), (q7, .inl (cI, 64, .inl (fun _ => nI 0))), (q15, .inl (cI, 64, .inl (fun _ => nI 0)))]) rfl ?_
  refine sg_putF (q0 := 0) h dX3_init_17 fX3_15 rfl (by decide) rfl okX3 nmX3 rfl  hnm rfl (okX3 1 (by decide)) rfl rfl rfl (Nat.le_of_ble_eq_true rfl) ?_
  refine sg_ws (ws' := [(h0, .inr (3, [.ref q7, .ref q15, .null, .null, .null, .null])), (q7, .inl (cI, 64, .inl (fun _ => nI 0))), (q15, .inl (cI, 64, .inl (fun _ => nI 0)))]) rfl ?_
  refine sg_aload_n h dX3_init_20 0 rfl ?_
  refine sg_bipush h dX3_init_21 (by decide) ?_
  refine sg_newa (ty := .int) (t0 := 0) (cA := cI) h dX3_init_23 rfl wd_int rfl rfl (Or.inl rfl) (by decide) (Nat.le_of_ble_eq_true rfl) (Nat.le_of_ble_eq_true rfl) (fun q23 => ?_)
  refine sg_ws (ws' := [(h0, .inr (3, [.ref q7, .ref q15, .null, .null, .null, .null])), (q7, .inl (cI, 64, .inl (fun _ => nI 0))), (q15, .inl (cI, 64, .inl (fun _ => nI 0))), (q23, .inl (cI, 8, .inl (fun _ => nI 0)))]) rfl ?_
  refine sg_putF (q0 := 0) h dX3_init_25 fX3_18 rfl (by decide) rfl okX3 nmX3 rfl  hnm rfl (okX3 2 (by decide)) rfl rfl rfl (Nat.le_of_ble_eq_true rfl) ?_
  refine sg_ws (ws' := [(h0, .inr (3, [.ref q7, .ref q15, .ref q23, .null, .null, .null])), (q7, .inl (cI, 64, .inl (fun _ => nI 0))), (q15, .inl (cI, 64, .inl (fun _ => nI 0))), (q23, .inl (cI, 8, .inl (fun _ => nI 0)))]) rfl ?_
  refine sg_aload_n h dX3_init_28 0 rfl ?_
  refine sg_bipush h dX3_init_29 (by decide) ?_
  refine sg_newa (ty := .int) (t0 := 0) (cA := cI) h dX3_init_31 rfl wd_int rfl rfl (Or.inl rfl) (by decide) (Nat.le_of_ble_eq_true rfl) (Nat.le_of_ble_eq_true rfl) (fun q31 => ?_)
  refine sg_ws (ws' := [(h0, .inr (3, [.ref q7, .ref q15, .ref q23, .null, .null, .null])), (q7, .inl (cI, 64, .inl (fun _ => nI 0))), (q15, .inl (cI, 64, .inl (fun _ => nI 0))), (q23, .inl (cI, 8, .inl (fun _ => nI 0))), (q31, .inl (cI, 8, .inl (fun _ => nI 0)))]) rfl ?_
  refine sg_putF (q0 := 0) h dX3_init_33 fX3_21 rfl (by decide) rfl okX3 nmX3 rfl  hnm rfl (okX3 3 (by decide)) rfl rfl rfl (Nat.le_of_ble_eq_true rfl) ?_
  refine sg_ws (ws' := [(h0, .inr (3, [.ref q7, .ref q15, .ref q23, .ref q31, .null, .null])), (q7, .inl (cI, 64, .inl (fun _ => nI 0))), (q15, .inl (cI, 64, .inl (fun _ => nI 0))), (q23, .inl (cI, 8, .inl (fun _ => nI 0))), (q31, .inl (cI, 8, .inl (fun _ => nI 0)))]) rfl ?_
  refine sg_aload_n h dX3_init_36 0 rfl ?_
  refine sg_bipush h dX3_init_37 (by decide) ?_
  refine sg_newa (ty := .int) (t0 := 0) (cA := cI) h dX3_init_39 rfl wd_int rfl rfl (Or.inl rfl) (by decide) (Nat.le_of_ble_eq_true rfl) (Nat.le_of_ble_eq_true rfl) (fun q39 => ?_)
  refine sg_ws (ws' := [(h0, .inr (3, [.ref q7, .ref q15, .ref q23, .ref q31, .null, .null])), (q7, .inl (cI, 64, .inl (fun _ => nI 0))), (q15, .inl (cI, 64, .inl (fun _ => nI 0))), (q23, .inl (cI, 8, .inl (fun _ => nI 0))), (q31, .inl (cI, 8, .inl (fun _ => nI 0))), (q39, .inl (cI, 8, .inl (fun _ => nI 0)))]) rfl ?_
  refine sg_putF (q0 := 0) h dX3_init_41 fX3_24 rfl (by decide) rfl okX3 nmX3 rfl  hnm rfl (okX3 4 (by decide)) rfl rfl rfl (Nat.le_of_ble_eq_true rfl) ?_
  refine sg_ws (ws' := [(h0, .inr (3, [.ref q7, .ref q15, .ref q23, .ref q31, .ref q39, .null])), (q7, .inl (cI, 64, .inl (fun _ => nI 0))), (q15, .inl (cI, 64, .inl (fun _ => nI 0))), (q23, .inl (cI, 8, .inl (fun _ => nI 0))), (q31, .inl (cI, 8, .inl (fun _ => nI 0))), (q39, .inl (cI, 8, .inl (fun _ => nI 0)))]) rfl ?_
  refine sg_aload_n h dX3_init_44 0 rfl ?_
  refine sg_bipush h dX3_init_45 (by decide) ?_
  refine sg_newa (ty := .int) (t0 := 0) (cA := cI) h dX3_init_47 rfl wd_int rfl rfl (Or.inl rfl) (by decide) (Nat.le_of_ble_eq_true rfl) (Nat.le_of_ble_eq_true rfl) (fun q47 => ?_)
  refine sg_ws (ws' := [(h0, .inr (3, [.ref q7, .ref q15, .ref q23, .ref q31, .ref q39, .null])), (q7, .inl (cI, 64, .inl (fun _ => nI 0))), (q15, .inl (cI, 64, .inl (fun _ => nI 0))), (q23, .inl (cI, 8, .inl (fun _ => nI 0))), (q31, .inl (cI, 8, .inl (fun _ => nI 0))), (q39, .inl (cI, 8, .inl (fun _ => nI 0))), (q47, .inl (cI, 8, .inl (fun _ => nI 0)))]) rfl ?_
  refine sg_putF (q0 := 0) h dX3_init_49 fX3_27 rfl (by decide) rfl okX3 nmX3 rfl  hnm rfl (okX3 5 (by decide)) rfl rfl rfl (Nat.le_of_ble_eq_true rfl) ?_
  refine sg_ws (ws' := [(h0, .inr (3, [.ref q7, .ref q15, .ref q23, .ref q31, .ref q39, .ref q47])), (q7, .inl (cI, 64, .inl (fun _ => nI 0))), (q15, .inl (cI, 64, .inl (fun _ => nI 0))), (q23, .inl (cI, 8, .inl (fun _ => nI 0))), (q31, .inl (cI, 8, .inl (fun _ => nI 0))), (q39, .inl (cI, 8, .inl (fun _ => nI 0))), (q47, .inl (cI, 8, .inl (fun _ => nI 0)))]) rfl ?_
  refine sg_perm (ws' := [(h0, .inr (3, [.ref q7, .ref q15, .ref q23, .ref q31, .ref q39, .ref q47])), (q7, .inl (cI, 64, .inl (fun _ => nI 0))), (q15, .inl (cI, 64, .inl (fun _ => nI 0))), (q23, .inl (cI, 8, .inl (fun _ => nI 0))), (q31, .inl (cI, 8, .inl (fun _ => nI 0))), (q39, .inl (cI, 8, .inl (fun _ => nI 0))), (q47, .inl (cI, 8, .inl (fun _ => nI 0)))]) [0, 1, 2, 3, 4, 5, 6] rfl rfl ?_
  exact sg_vret h hQ dX3_init_52 ⟨q7, q15, q23, q31, q39, q47, rfl⟩

set_option maxRecDepth 100000 in
set_option maxHeartbeats 4000000 in
theorem nc_X6 {l : Launch} {D : va_G} {cI cB cM : ClassId} (h0 : Nat) : NC l D (tyL cI cB cM) qX6_init 1 6 272 [.ref h0] [(h0, .inr (6, [.null, .null, .null, .null, .null, .null, .int (nI 0), .int (nI 0), .int (nI 0)]))] (fun u => ∃ q1 q2 q3 q4 q5 q6 : Nat, u = [(h0, .inr (6, [.ref q1, .ref q2, .ref q3, .ref q4, .ref q5, .ref q6, .int (nI 0), .int (nI 0), .int (nI 0)])), (q1, .inl (cI, 64, .inl (fun _ => nI 0))), (q2, .inl (cI, 64, .inl (fun _ => nI 0))), (q3, .inl (cI, 64, .inl (fun _ => nI 0))), (q4, .inl (cI, 8, .inl (fun _ => nI 0))), (q5, .inl (cI, 8, .inl (fun _ => nI 0))), (q6, .inl (cI, 64, .inl (fun _ => nI 0)))]) := by
  refine NC.of rfl (by decide +kernel) (Nat.le_of_ble_eq_true rfl) (fun X A hl h hQ hnm => ?_)
  subst hl
  have h : FxS X D (tyL cI cB cM) cX6_init 1 RX6 1 6 272 := h
  have hQ : QxS X D (tyL cI cB cM) A (fun u => ∃ q1 q2 q3 q4 q5 q6 : Nat, u = [(h0, .inr (6, [.ref q1, .ref q2, .ref q3, .ref q4, .ref q5, .ref q6, .int (nI 0), .int (nI 0), .int (nI 0)])), (q1, .inl (cI, 64, .inl (fun _ => nI 0))), (q2, .inl (cI, 64, .inl (fun _ => nI 0))), (q3, .inl (cI, 64, .inl (fun _ => nI 0))), (q4, .inl (cI, 8, .inl (fun _ => nI 0))), (q5, .inl (cI, 8, .inl (fun _ => nI 0))), (q6, .inl (cI, 64, .inl (fun _ => nI 0)))]) 6 272 := hQ
  have hnm : X.2.2.2.2.2.2.2.2.1.name = "<init>" := hnm
  show SG X D A 1 0 [(0, .ref h0)] [] [(h0, .inr (6, [.null, .null, .null, .null, .null, .null, .int (nI 0), .int (nI 0), .int (nI 0)]))] 0 0
  refine sg_aload_n h dX6_init_0 0 rfl ?_
  refine sg_objInit h dX6_init_1 mX6_3 wd_oi wd_oc (by decide) rfl ?_
  refine sg_aload_n h dX6_init_4 0 rfl ?_
  refine sg_bipush h dX6_init_5 (by decide) ?_
  refine sg_newa (ty := .int) (t0 := 0) (cA := cI) h dX6_init_7 rfl wd_int rfl rfl (Or.inl rfl) (by decide) (Nat.le_of_ble_eq_true rfl) (Nat.le_of_ble_eq_true rfl) (fun q7 => ?_)
  refine sg_ws (ws' := [(h0, .inr (6, [.null, .null, .null, .null, .null, .null, .int (nI 0), .int (nI 0), .int (nI 0)])), (q7, .inl (cI, 64, .inl (fun _ => nI 0)))]) rfl ?_
  refine sg_putF (q0 := 0) h dX6_init_9 fX6_9 rfl (by decide) rfl okX6 nmX6 rfl  hnm rfl (okX6 0 (by decide)) rfl rfl rfl (Nat.le_of_ble_eq_true rfl) ?_
  refine sg_ws (ws' := [(h0, .inr (6, [.ref q7, .null, .null, .null, .null, .null, .int (nI 0), .int (nI 0), .int (nI 0)])), (q7, .inl (cI, 64, .inl (fun _ => nI 0)))]) rfl ?_
  refine sg_aload_n h dX6_init_12 0 rfl ?_
  refine sg_bipush h dX6_init_13 (by decide) ?_
  refine sg_newa (ty := .int) (t0 := 0) (cA := cI) h dX6_init_15 rfl wd_int rfl rfl (Or.inl rfl) (by decide) (Nat.le_of_ble_eq_true rfl) (Nat.le_of_ble_eq_true rfl) (fun q15 => ?_)
  refine sg_ws (ws' := [(h0, .inr (6, [.ref q7, .null, .null, .null, .null, .null, .int (nI 0), .int (nI 0), .int (nI 0)])), (q7, .inl (cI, 64, .inl (fun _ => nI 0))), (q15, .inl (cI, 64, .inl (fun _ => nI 0)))]) rfl ?_
  refine sg_putF (q0 := 0) h dX6_init_17 fX6_15 rfl (by decide) rfl okX6 nmX6 rfl  hnm rfl (okX6 1 (by decide)) rfl rfl rfl (Nat.le_of_ble_eq_true rfl) ?_
  refine sg_ws (ws' := [(h0, .inr (6, [.ref q7, .ref q15, .null, .null, .null, .null, .int (nI 0), .int (nI 0), .int (nI 0)])), (q7, .inl (cI, 64, .inl (fun _ => nI 0))), (q15, .inl (cI, 64, .inl (fun _ => nI 0)))]) rfl ?_
  refine sg_aload_n h dX6_init_20 0 rfl ?_
  refine sg_bipush h dX6_init_21 (by decide) ?_
  refine sg_newa (ty := .int) (t0 := 0) (cA := cI) h dX6_init_23 rfl wd_int rfl rfl (Or.inl rfl) (by decide) (Nat.le_of_ble_eq_true rfl) (Nat.le_of_ble_eq_true rfl) (fun q23 => ?_)
  refine sg_ws (ws' := [(h0, .inr (6, [.ref q7, .ref q15, .null, .null, .null, .null, .int (nI 0), .int (nI 0), .int (nI 0)])), (q7, .inl (cI, 64, .inl (fun _ => nI 0))), (q15, .inl (cI, 64, .inl (fun _ => nI 0))), (q23, .inl (cI, 64, .inl (fun _ => nI 0)))]) rfl ?_
  refine sg_putF (q0 := 0) h dX6_init_25 fX6_18 rfl (by decide) rfl okX6 nmX6 rfl  hnm rfl (okX6 2 (by decide)) rfl rfl rfl (Nat.le_of_ble_eq_true rfl) ?_
  refine sg_ws (ws' := [(h0, .inr (6, [.ref q7, .ref q15, .ref q23, .null, .null, .null, .int (nI 0), .int (nI 0), .int (nI 0)])), (q7, .inl (cI, 64, .inl (fun _ => nI 0))), (q15, .inl (cI, 64, .inl (fun _ => nI 0))), (q23, .inl (cI, 64, .inl (fun _ => nI 0)))]) rfl ?_
  refine sg_aload_n h dX6_init_28 0 rfl ?_
  refine sg_bipush h dX6_init_29 (by decide) ?_
  refine sg_newa (ty := .int) (t0 := 0) (cA := cI) h dX6_init_31 rfl wd_int rfl rfl (Or.inl rfl) (by decide) (Nat.le_of_ble_eq_true rfl) (Nat.le_of_ble_eq_true rfl) (fun q31 => ?_)
  refine sg_ws (ws' := [(h0, .inr (6, [.ref q7, .ref q15, .ref q23, .null, .null, .null, .int (nI 0), .int (nI 0), .int (nI 0)])), (q7, .inl (cI, 64, .inl (fun _ => nI 0))), (q15, .inl (cI, 64, .inl (fun _ => nI 0))), (q23, .inl (cI, 64, .inl (fun _ => nI 0))), (q31, .inl (cI, 8, .inl (fun _ => nI 0)))]) rfl ?_
  refine sg_putF (q0 := 0) h dX6_init_33 fX6_21 rfl (by decide) rfl okX6 nmX6 rfl  hnm rfl (okX6 3 (by decide)) rfl rfl rfl (Nat.le_of_ble_eq_true rfl) ?_
  refine sg_ws (ws' := [(h0, .inr (6, [.ref q7, .ref q15, .ref q23, .ref q31, .null, .null, .int (nI 0), .int (nI 0), .int (nI 0)])), (q7, .inl (cI, 64, .inl (fun _ => nI 0))), (q15, .inl (cI, 64, .inl (fun _ => nI 0))), (q23, .inl (cI, 64, .inl (fun _ => nI 0))), (q31, .inl (cI, 8, .inl (fun _ => nI 0)))]) rfl ?_
  refine sg_aload_n h dX6_init_36 0 rfl ?_
  refine sg_bipush h dX6_init_37 (by decide) ?_
  refine sg_newa (ty := .int) (t0 := 0) (cA := cI) h dX6_init_39 rfl wd_int rfl rfl (Or.inl rfl) (by decide) (Nat.le_of_ble_eq_true rfl) (Nat.le_of_ble_eq_true rfl) (fun q39 => ?_)
  refine sg_ws (ws' := [(h0, .inr (6, [.ref q7, .ref q15, .ref q23, .ref q31, .null, .null, .int (nI 0), .int (nI 0), .int (nI 0)])), (q7, .inl (cI, 64, .inl (fun _ => nI 0))), (q15, .inl (cI, 64, .inl (fun _ => nI 0))), (q23, .inl (cI, 64, .inl (fun _ => nI 0))), (q31, .inl (cI, 8, .inl (fun _ => nI 0))), (q39, .inl (cI, 8, .inl (fun _ => nI 0)))]) rfl ?_
  refine sg_putF (q0 := 0) h dX6_init_41 fX6_24 rfl (by decide) rfl okX6 nmX6 rfl  hnm rfl (okX6 4 (by decide)) rfl rfl rfl (Nat.le_of_ble_eq_true rfl) ?_
  refine sg_ws (ws' := [(h0, .inr (6, [.ref q7, .ref q15, .ref q23, .ref q31, .ref q39, .null, .int (nI 0), .int (nI 0), .int (nI 0)])), (q7, .inl (cI, 64, .inl (fun _ => nI 0))), (q15, .inl (cI, 64, .inl (fun _ => nI 0))), (q23, .inl (cI, 64, .inl (fun _ => nI 0))), (q31, .inl (cI, 8, .inl (fun _ => nI 0))), (q39, .inl (cI, 8, .inl (fun _ => nI 0)))]) rfl ?_
  refine sg_aload_n h dX6_init_44 0 rfl ?_
  refine sg_bipush h dX6_init_45 (by decide) ?_
  refine sg_newa (ty := .int) (t0 := 0) (cA := cI) h dX6_init_47 rfl wd_int rfl rfl (Or.inl rfl) (by decide) (Nat.le_of_ble_eq_true rfl) (Nat.le_of_ble_eq_true rfl) (fun q47 => ?_)
  refine sg_ws (ws' := [(h0, .inr (6, [.ref q7, .ref q15, .ref q23, .ref q31, .ref q39, .null, .int (nI 0), .int (nI 0), .int (nI 0)])), (q7, .inl (cI, 64, .inl (fun _ => nI 0))), (q15, .inl (cI, 64, .inl (fun _ => nI 0))), (q23, .inl (cI, 64, .inl (fun _ => nI 0))), (q31, .inl (cI, 8, .inl (fun _ => nI 0))), (q39, .inl (cI, 8, .inl (fun _ => nI 0))), (q47, .inl (cI, 64, .inl (fun _ => nI 0)))]) rfl ?_
  refine sg_putF (q0 := 0) h dX6_init_49 fX6_27 rfl (by decide) rfl okX6 nmX6 rfl  hnm rfl (okX6 5 (by decide)) rfl rfl rfl (Nat.le_of_ble_eq_true rfl) ?_
  refine sg_ws (ws' := [(h0, .inr (6, [.ref q7, .ref q15, .ref q23, .ref q31, .ref q39, .ref q47, .int (nI 0), .int (nI 0), .int (nI 0)])), (q7, .inl (cI, 64, .inl (fun _ => nI 0))), (q15, .inl (cI, 64, .inl (fun _ => nI 0))), (q23, .inl (cI, 64, .inl (fun _ => nI 0))), (q31, .inl (cI, 8, .inl (fun _ => nI 0))), (q39, .inl (cI, 8, .inl (fun _ => nI 0))), (q47, .inl (cI, 64, .inl (fun _ => nI 0)))]) rfl ?_
  refine sg_perm (ws' := [(h0, .inr (6, [.ref q7, .ref q15, .ref q23, .ref q31, .ref q39, .ref q47, .int (nI 0), .int (nI 0), .int (nI 0)])), (q7, .inl (cI, 64, .inl (fun _ => nI 0))), (q15, .inl (cI, 64, .inl (fun _ => nI 0))), (q23, .inl (cI, 64, .inl (fun _ => nI 0))), (q31, .inl (cI, 8, .inl (fun _ => nI 0))), (q39, .inl (cI, 8, .inl (fun _ => nI 0))), (q47, .inl (cI, 64, .inl (fun _ => nI 0)))]) [0, 1, 2, 3, 4, 5, 6] rfl rfl ?_
  exact sg_vret h hQ dX6_init_52 ⟨q7, q15, q23, q31, q39, q47, rfl⟩

set_option maxRecDepth 100000 in
set_option maxHeartbeats 4000000 in
theorem nc_X7 {l : Launch} {D : va_G} {cI cB cM : ClassId} (h0 : Nat) : NC l D (tyL cI cB cM) qX7_init 1 2 403 [.ref h0] [(h0, .inr (7, [.int (nI 0), .int (nI 0), .null, .int (nI 0), .int (nI 0), .int (nI 0), .int (nI 0), .null, .int (nI 0)]))] (fun u => ∃ q1 q2 : Nat, u = [(h0, .inr (7, [.int (nI 0), .int (nI 0), .ref q1, .int (nI 0), .int (nI 0), .int (nI 0), .int (nI 0), .ref q2, .int (nI 0)])), (q1, .inl (cB, 400, .inl (fun _ => nI 0))), (q2, .inl (cI, 3, .inl (fun _ => nI 0)))]) := by
  refine NC.of rfl (by decide +kernel) (Nat.le_of_ble_eq_true rfl) (fun X A hl h hQ hnm => ?_)
  subst hl
  have h : FxS X D (tyL cI cB cM) cX7_init 1 RX7 1 2 403 := h
  have hQ : QxS X D (tyL cI cB cM) A (fun u => ∃ q1 q2 : Nat, u = [(h0, .inr (7, [.int (nI 0), .int (nI 0), .ref q1, .int (nI 0), .int (nI 0), .int (nI 0), .int (nI 0), .ref q2, .int (nI 0)])), (q1, .inl (cB, 400, .inl (fun _ => nI 0))), (q2, .inl (cI, 3, .inl (fun _ => nI 0)))]) 2 403 := hQ
  have hnm : X.2.2.2.2.2.2.2.2.1.name = "<init>" := hnm
  show SG X D A 1 0 [(0, .ref h0)] [] [(h0, .inr (7, [.int (nI 0), .int (nI 0), .null, .int (nI 0), .int (nI 0), .int (nI 0), .int (nI 0), .null, .int (nI 0)]))] 0 0
  refine sg_aload_n h dX7_init_0 0 rfl ?_
  refine sg_objInit h dX7_init_1 mX7_3 wd_oi wd_oc (by decide) rfl ?_
  refine sg_aload_n h dX7_init_4 0 rfl ?_
  refine sg_sipush h dX7_init_5 (by decide) ?_
  refine sg_newa (ty := .byte) (t0 := 1) (cA := cB) h dX7_init_8 rfl wd_byte rfl rfl (Or.inr rfl) (by decide) (Nat.le_of_ble_eq_true rfl) (Nat.le_of_ble_eq_true rfl) (fun q8 => ?_)
  refine sg_ws (ws' := [(h0, .inr (7, [.int (nI 0), .int (nI 0), .null, .int (nI 0), .int (nI 0), .int (nI 0), .int (nI 0), .null, .int (nI 0)])), (q8, .inl (cB, 400, .inl (fun _ => nI 0)))]) rfl ?_
  refine sg_putF (q0 := 0) h dX7_init_10 fX7_9 rfl (by decide) rfl okX7 nmX7 rfl  hnm rfl (okX7 2 (by decide)) rfl rfl rfl (Nat.le_of_ble_eq_true rfl) ?_
  refine sg_ws (ws' := [(h0, .inr (7, [.int (nI 0), .int (nI 0), .ref q8, .int (nI 0), .int (nI 0), .int (nI 0), .int (nI 0), .null, .int (nI 0)])), (q8, .inl (cB, 400, .inl (fun _ => nI 0)))]) rfl ?_
  refine sg_aload_n h dX7_init_13 0 rfl ?_
  refine sg_iconst h dX7_init_14 (by decide) ?_
  refine sg_newa (ty := .int) (t0 := 0) (cA := cI) h dX7_init_15 rfl wd_int rfl rfl (Or.inl rfl) (by decide) (Nat.le_of_ble_eq_true rfl) (Nat.le_of_ble_eq_true rfl) (fun q15 => ?_)
  refine sg_ws (ws' := [(h0, .inr (7, [.int (nI 0), .int (nI 0), .ref q8, .int (nI 0), .int (nI 0), .int (nI 0), .int (nI 0), .null, .int (nI 0)])), (q8, .inl (cB, 400, .inl (fun _ => nI 0))), (q15, .inl (cI, 3, .inl (fun _ => nI 0)))]) rfl ?_
  refine sg_putF (q0 := 0) h dX7_init_17 fX7_15 rfl (by decide) rfl okX7 nmX7 rfl  hnm rfl (okX7 7 (by decide)) rfl rfl rfl (Nat.le_of_ble_eq_true rfl) ?_
  refine sg_ws (ws' := [(h0, .inr (7, [.int (nI 0), .int (nI 0), .ref q8, .int (nI 0), .int (nI 0), .int (nI 0), .int (nI 0), .ref q15, .int (nI 0)])), (q8, .inl (cB, 400, .inl (fun _ => nI 0))), (q15, .inl (cI, 3, .inl (fun _ => nI 0)))]) rfl ?_
  refine sg_perm (ws' := [(h0, .inr (7, [.int (nI 0), .int (nI 0), .ref q8, .int (nI 0), .int (nI 0), .int (nI 0), .int (nI 0), .ref q15, .int (nI 0)])), (q8, .inl (cB, 400, .inl (fun _ => nI 0))), (q15, .inl (cI, 3, .inl (fun _ => nI 0)))]) [0, 1, 2] rfl rfl ?_
  exact sg_vret h hQ dX7_init_20 ⟨q8, q15, rfl⟩

set_option maxRecDepth 100000 in
set_option maxHeartbeats 4000000 in
theorem nc_X0 {l : Launch} {D : va_G} {cI cB cM : ClassId} (h0 : Nat) : NC l D (tyL cI cB cM) qX0_init 1 1 8 [.ref h0] [(h0, .inr (0, [.null, .int (nI 0)]))] (fun u => ∃ q1 : Nat, u = [(h0, .inr (0, [.ref q1, .int (nI 0)])), (q1, .inl (cI, 8, .inl (fun _ => nI 0)))]) := by
  refine NC.of rfl (by decide +kernel) (Nat.le_of_ble_eq_true rfl) (fun X A hl h hQ hnm => ?_)
  subst hl
  have h : FxS X D (tyL cI cB cM) cX0_init 1 RX0 1 1 8 := h
  have hQ : QxS X D (tyL cI cB cM) A (fun u => ∃ q1 : Nat, u = [(h0, .inr (0, [.ref q1, .int (nI 0)])), (q1, .inl (cI, 8, .inl (fun _ => nI 0)))]) 1 8 := hQ
  have hnm : X.2.2.2.2.2.2.2.2.1.name = "<init>" := hnm
  show SG X D A 1 0 [(0, .ref h0)] [] [(h0, .inr (0, [.null, .int (nI 0)]))] 0 0
  refine sg_aload_n h dX0_init_0 0 rfl ?_
  refine sg_objInit h dX0_init_1 mX0_3 wd_oi wd_oc (by decide) rfl ?_
  refine sg_aload_n h dX0_init_4 0 rfl ?_
  refine sg_bipush h dX0_init_5 (by decide) ?_
  refine sg_newa (ty := .int) (t0 := 0) (cA := cI) h dX0_init_7 rfl wd_int rfl rfl (Or.inl rfl) (by decide) (Nat.le_of_ble_eq_true rfl) (Nat.le_of_ble_eq_true rfl) (fun q7 => ?_)
  refine sg_ws (ws' := [(h0, .inr (0, [.null, .int (nI 0)])), (q7, .inl (cI, 8, .inl (fun _ => nI 0)))]) rfl ?_
  refine sg_putF (q0 := 0) h dX0_init_9 fX0_9 rfl (by decide) rfl okX0 nmX0 rfl  hnm rfl (okX0 0 (by decide)) rfl rfl rfl (Nat.le_of_ble_eq_true rfl) ?_
  refine sg_ws (ws' := [(h0, .inr (0, [.ref q7, .int (nI 0)])), (q7, .inl (cI, 8, .inl (fun _ => nI 0)))]) rfl ?_
  refine sg_perm (ws' := [(h0, .inr (0, [.ref q7, .int (nI 0)])), (q7, .inl (cI, 8, .inl (fun _ => nI 0)))]) [0, 1] rfl rfl ?_
  exact sg_vret h hQ dX0_init_12 ⟨q7, rfl⟩

set_option maxRecDepth 100000 in
set_option maxHeartbeats 4000000 in
theorem nc_X1 {l : Launch} {D : va_G} {cI cB cM : ClassId} (h0 : Nat) : NC l D (tyL cI cB cM) qX1_init 1 1 8 [.ref h0] [(h0, .inr (1, [.int (nI 0), .int (nI 0), .null, .int (nI 0), .int (nI 0)]))] (fun u => ∃ q1 : Nat, u = [(h0, .inr (1, [.int (nI 0), .int (nI 0), .ref q1, .int (nI 0), .int (nI 0)])), (q1, .inl (cI, 8, .inl (fun _ => nI 0)))]) := by
  refine NC.of rfl (by decide +kernel) (Nat.le_of_ble_eq_true rfl) (fun X A hl h hQ hnm => ?_)
  subst hl
  have h : FxS X D (tyL cI cB cM) cX1_init 1 RX1 1 1 8 := h
  have hQ : QxS X D (tyL cI cB cM) A (fun u => ∃ q1 : Nat, u = [(h0, .inr (1, [.int (nI 0), .int (nI 0), .ref q1, .int (nI 0), .int (nI 0)])), (q1, .inl (cI, 8, .inl (fun _ => nI 0)))]) 1 8 := hQ
  have hnm : X.2.2.2.2.2.2.2.2.1.name = "<init>" := hnm
  show SG X D A 1 0 [(0, .ref h0)] [] [(h0, .inr (1, [.int (nI 0), .int (nI 0), .null, .int (nI 0), .int (nI 0)]))] 0 0
  refine sg_aload_n h dX1_init_0 0 rfl ?_
  refine sg_objInit h dX1_init_1 mX1_3 wd_oi wd_oc (by decide) rfl ?_
  refine sg_aload_n h dX1_init_4 0 rfl ?_
  refine sg_bipush h dX1_init_5 (by decide) ?_
  refine sg_newa (ty := .int) (t0 := 0) (cA := cI) h dX1_init_7 rfl wd_int rfl rfl (Or.inl rfl) (by decide) (Nat.le_of_ble_eq_true rfl) (Nat.le_of_ble_eq_true rfl) (fun q7 => ?_)
  refine sg_ws (ws' := [(h0, .inr (1, [.int (nI 0), .int (nI 0), .null, .int (nI 0), .int (nI 0)])), (q7, .inl (cI, 8, .inl (fun _ => nI 0)))]) rfl ?_
  refine sg_putF (q0 := 0) h dX1_init_9 fX1_9 rfl (by decide) rfl okX1 nmX1 rfl  hnm rfl (okX1 2 (by decide)) rfl rfl rfl (Nat.le_of_ble_eq_true rfl) ?_
  refine sg_ws (ws' := [(h0, .inr (1, [.int (nI 0), .int (nI 0), .ref q7, .int (nI 0), .int (nI 0)])), (q7, .inl (cI, 8, .inl (fun _ => nI 0)))]) rfl ?_
  refine sg_perm (ws' := [(h0, .inr (1, [.int (nI 0), .int (nI 0), .ref q7, .int (nI 0), .int (nI 0)])), (q7, .inl (cI, 8, .inl (fun _ => nI 0)))]) [0, 1] rfl rfl ?_
  exact sg_vret h hQ dX1_init_12 ⟨q7, rfl⟩

set_option maxRecDepth 100000 in
set_option maxHeartbeats 4000000 in
theorem nc_X2 {l : Launch} {D : va_G} {cI cB cM : ClassId} (h0 : Nat) : NC l D (tyL cI cB cM) qX2_init 1 1 9 [.ref h0] [(h0, .inr (2, [.null, .int (nI 0), .int (nI 0), .int (nI 0)]))] (fun u => ∃ q1 : Nat, u = [(h0, .inr (2, [.ref q1, .int (nI 0), .int (nI 0), .int (nI 0)])), (q1, .inl (cI, 9, .inl (fun _ => nI 0)))]) := by
  refine NC.of rfl (by decide +kernel) (Nat.le_of_ble_eq_true rfl) (fun X A hl h hQ hnm => ?_)
  subst hl
  have h : FxS X D (tyL cI cB cM) cX2_init 1 RX2 1 1 9 := h
  have hQ : QxS X D (tyL cI cB cM) A (fun u => ∃ q1 : Nat, u = [(h0, .inr (2, [.ref q1, .int (nI 0), .int (nI 0), .int (nI 0)])), (q1, .inl (cI, 9, .inl (fun _ => nI 0)))]) 1 9 := hQ
  have hnm : X.2.2.2.2.2.2.2.2.1.name = "<init>" := hnm
  show SG X D A 1 0 [(0, .ref h0)] [] [(h0, .inr (2, [.null, .int (nI 0), .int (nI 0), .int (nI 0)]))] 0 0
  refine sg_aload_n h dX2_init_0 0 rfl ?_
  refine sg_objInit h dX2_init_1 mX2_3 wd_oi wd_oc (by decide) rfl ?_
  refine sg_aload_n h dX2_init_4 0 rfl ?_
  refine sg_bipush h dX2_init_5 (by decide) ?_
  refine sg_newa (ty := .int) (t0 := 0) (cA := cI) h dX2_init_7 rfl wd_int rfl rfl (Or.inl rfl) (by decide) (Nat.le_of_ble_eq_true rfl) (Nat.le_of_ble_eq_true rfl) (fun q7 => ?_)
  refine sg_ws (ws' := [(h0, .inr (2, [.null, .int (nI 0), .int (nI 0), .int (nI 0)])), (q7, .inl (cI, 9, .inl (fun _ => nI 0)))]) rfl ?_
  refine sg_putF (q0 := 0) h dX2_init_9 fX2_9 rfl (by decide) rfl okX2 nmX2 rfl  hnm rfl (okX2 0 (by decide)) rfl rfl rfl (Nat.le_of_ble_eq_true rfl) ?_
  refine sg_ws (ws' := [(h0, .inr (2, [.ref q7, .int (nI 0), .int (nI 0), .int (nI 0)])), (q7, .inl (cI, 9, .inl (fun _ => nI 0)))]) rfl ?_
  refine sg_perm (ws' := [(h0, .inr (2, [.ref q7, .int (nI 0), .int (nI 0), .int (nI 0)])), (q7, .inl (cI, 9, .inl (fun _ => nI 0)))]) [0, 1] rfl rfl ?_
  exact sg_vret h hQ dX2_init_12 ⟨q7, rfl⟩

set_option maxRecDepth 100000 in
set_option maxHeartbeats 4000000 in
theorem nc_X8 {l : Launch} {D : va_G} {cI cB cM : ClassId} (h0 : Nat) : NC l D (tyL cI cB cM) qX8_init 1 2 128 [.ref h0] [(h0, .inr (8, [.null, .null]))] (fun u => ∃ q1 q2 : Nat, u = [(h0, .inr (8, [.ref q1, .ref q2])), (q1, .inl (cI, 64, .inl (fun _ => nI 0))), (q2, .inl (cI, 64, .inl (fun _ => nI 0)))]) := by
  refine NC.of rfl (by decide +kernel) (Nat.le_of_ble_eq_true rfl) (fun X A hl h hQ hnm => ?_)
  subst hl
  have h : FxS X D (tyL cI cB cM) cX8_init 1 RX8 1 2 128 := h
  have hQ : QxS X D (tyL cI cB cM) A (fun u => ∃ q1 q2 : Nat, u = [(h0, .inr (8, [.ref q1, .ref q2])), (q1, .inl (cI, 64, .inl (fun _ => nI 0))), (q2, .inl (cI, 64, .inl (fun _ => nI 0)))]) 2 128 := hQ
  have hnm : X.2.2.2.2.2.2.2.2.1.name = "<init>" := hnm
  show SG X D A 1 0 [(0, .ref h0)] [] [(h0, .inr (8, [.null, .null]))] 0 0
  refine sg_aload_n h dX8_init_0 0 rfl ?_
  refine sg_objInit h dX8_init_1 mX8_3 wd_oi wd_oc (by decide) rfl ?_
  refine sg_aload_n h dX8_init_4 0 rfl ?_
  refine sg_bipush h dX8_init_5 (by decide) ?_
  refine sg_newa (ty := .int) (t0 := 0) (cA := cI) h dX8_init_7 rfl wd_int rfl rfl (Or.inl rfl) (by decide) (Nat.le_of_ble_eq_true rfl) (Nat.le_of_ble_eq_true rfl) (fun q7 => ?_)
  refine sg_ws (ws' := [(h0, .inr (8, [.null, .null])), (q7, .inl (cI, 64, .inl (fun _ => nI 0)))]) rfl ?_
  refine sg_putF (q0 := 0) h dX8_init_9 fX8_9 rfl (by decide) rfl okX8 nmX8 rfl  hnm rfl (okX8 0 (by decide)) rfl rfl rfl (Nat.le_of_ble_eq_true rfl) ?_
  refine sg_ws (ws' := [(h0, .inr (8, [.ref q7, .null])), (q7, .inl (cI, 64, .inl (fun _ => nI 0)))]) rfl ?_
  refine sg_aload_n h dX8_init_12 0 rfl ?_
  refine sg_bipush h dX8_init_13 (by decide) ?_
  refine sg_newa (ty := .int) (t0 := 0) (cA := cI) h dX8_init_15 rfl wd_int rfl rfl (Or.inl rfl) (by decide) (Nat.le_of_ble_eq_true rfl) (Nat.le_of_ble_eq_true rfl) (fun q15 => ?_)
  refine sg_ws (ws' := [(h0, .inr (8, [.ref q7, .null])), (q7, .inl (cI, 64, .inl (fun _ => nI 0))), (q15, .inl (cI, 64, .inl (fun _ => nI 0)))]) rfl ?_
  refine sg_putF (q0 := 0) h dX8_init_17 fX8_15 rfl (by decide) rfl okX8 nmX8 rfl  hnm rfl (okX8 1 (by decide)) rfl rfl rfl (Nat.le_of_ble_eq_true rfl) ?_
  refine sg_ws (ws' := [(h0, .inr (8, [.ref q7, .ref q15])), (q7, .inl (cI, 64, .inl (fun _ => nI 0))), (q15, .inl (cI, 64, .inl (fun _ => nI 0)))]) rfl ?_
  refine sg_perm (ws' := [(h0, .inr (8, [.ref q7, .ref q15])), (q7, .inl (cI, 64, .inl (fun _ => nI 0))), (q15, .inl (cI, 64, .inl (fun _ => nI 0)))]) [0, 1, 2] rfl rfl ?_
  exact sg_vret h hQ dX8_init_20 ⟨q7, q15, rfl⟩

set_option maxRecDepth 100000 in
set_option maxHeartbeats 4000000 in
theorem nc_X10 {l : Launch} {D : va_G} {cI cB cM : ClassId} (h0 : Nat) : NC l D (tyL cI cB cM) qX10_init 1 2 72 [.ref h0] [(h0, .inr (10, [.int (nI 0), .null, .null]))] (fun u => ∃ q1 q2 : Nat, u = [(h0, .inr (10, [.int (nI 0), .ref q1, .ref q2])), (q1, .inl (cI, 8, .inl (fun _ => nI 0))), (q2, .inl (cI, 64, .inl (fun _ => nI 0)))]) := by
  refine NC.of rfl (by decide +kernel) (Nat.le_of_ble_eq_true rfl) (fun X A hl h hQ hnm => ?_)
  subst hl
  have h : FxS X D (tyL cI cB cM) cX10_init 1 RX10 1 2 72 := h
  have hQ : QxS X D (tyL cI cB cM) A (fun u => ∃ q1 q2 : Nat, u = [(h0, .inr (10, [.int (nI 0), .ref q1, .ref q2])), (q1, .inl (cI, 8, .inl (fun _ => nI 0))), (q2, .inl (cI, 64, .inl (fun _ => nI 0)))]) 2 72 := hQ
  have hnm : X.2.2.2.2.2.2.2.2.1.name = "<init>" := hnm
  show SG X D A 1 0 [(0, .ref h0)] [] [(h0, .inr (10, [.int (nI 0), .null, .null]))] 0 0
  refine sg_aload_n h dX10_init_0 0 rfl ?_
  refine sg_objInit h dX10_init_1 mX10_3 wd_oi wd_oc (by decide) rfl ?_
  refine sg_aload_n h dX10_init_4 0 rfl ?_
  refine sg_bipush h dX10_init_5 (by decide) ?_
  refine sg_newa (ty := .int) (t0 := 0) (cA := cI) h dX10_init_7 rfl wd_int rfl rfl (Or.inl rfl) (by decide) (Nat.le_of_ble_eq_true rfl) (Nat.le_of_ble_eq_true rfl) (fun q7 => ?_)
  refine sg_ws (ws' := [(h0, .inr (10, [.int (nI 0), .null, .null])), (q7, .inl (cI, 8, .inl (fun _ => nI 0)))]) rfl ?_
  refine sg_putF (q0 := 0) h dX10_init_9 fX10_9 rfl (by decide) rfl okX10 nmX10 rfl  hnm rfl (okX10 1 (by decide)) rfl rfl rfl (Nat.le_of_ble_eq_true rfl) ?_
  refine sg_ws (ws' := [(h0, .inr (10, [.int (nI 0), .ref q7, .null])), (q7, .inl (cI, 8, .inl (fun _ => nI 0)))]) rfl ?_
  refine sg_aload_n h dX10_init_12 0 rfl ?_
  refine sg_bipush h dX10_init_13 (by decide) ?_
  refine sg_newa (ty := .int) (t0 := 0) (cA := cI) h dX10_init_15 rfl wd_int rfl rfl (Or.inl rfl) (by decide) (Nat.le_of_ble_eq_true rfl) (Nat.le_of_ble_eq_true rfl) (fun q15 => ?_)
  refine sg_ws (ws' := [(h0, .inr (10, [.int (nI 0), .ref q7, .null])), (q7, .inl (cI, 8, .inl (fun _ => nI 0))), (q15, .inl (cI, 64, .inl (fun _ => nI 0)))]) rfl ?_
  refine sg_putF (q0 := 0) h dX10_init_17 fX10_15 rfl (by decide) rfl okX10 nmX10 rfl  hnm rfl (okX10 2 (by decide)) rfl rfl rfl (Nat.le_of_ble_eq_true rfl) ?_
  refine sg_ws (ws' := [(h0, .inr (10, [.int (nI 0), .ref q7, .ref q15])), (q7, .inl (cI, 8, .inl (fun _ => nI 0))), (q15, .inl (cI, 64, .inl (fun _ => nI 0)))]) rfl ?_
  refine sg_perm (ws' := [(h0, .inr (10, [.int (nI 0), .ref q7, .ref q15])), (q7, .inl (cI, 8, .inl (fun _ => nI 0))), (q15, .inl (cI, 64, .inl (fun _ => nI 0)))]) [0, 1, 2] rfl rfl ?_
  exact sg_vret h hQ dX10_init_20 ⟨q7, q15, rfl⟩

set_option maxRecDepth 100000 in
set_option maxHeartbeats 4000000 in
theorem nc_X4 {l : Launch} {D : va_G} {cI cB cM : ClassId} (h0 : Nat) : NC l D (tyL cI cB cM) qX4_init 1 0 0 [.ref h0] [(h0, .inr (4, [.int (nI 0), .int (nI 0), .int (nI 0)]))] (fun u => u = [(h0, .inr (4, [.int (nI 0), .int (nI 0), .int (nI 0)]))]) := by
  refine NC.of rfl (by decide +kernel) (Nat.le_of_ble_eq_true rfl) (fun X A hl h hQ hnm => ?_)
  subst hl
  have h : FxS X D (tyL cI cB cM) cX4_init 1 RX4 1 0 0 := h
  have hQ : QxS X D (tyL cI cB cM) A (fun u => u = [(h0, .inr (4, [.int (nI 0), .int (nI 0), .int (nI 0)]))]) 0 0 := hQ
  have hnm : X.2.2.2.2.2.2.2.2.1.name = "<init>" := hnm
  show SG X D A 1 0 [(0, .ref h0)] [] [(h0, .inr (4, [.int (nI 0), .int (nI 0), .int (nI 0)]))] 0 0
  refine sg_aload_n h dX4_init_0 0 rfl ?_
  refine sg_objInit h dX4_init_1 mX4_1 wd_oi wd_oc (by decide) rfl ?_
  refine sg_aload_n h dX4_init_4 0 rfl ?_
  refine sg_iconst h dX4_init_5 (by decide) ?_
  refine sg_puti (q0 := 0) h dX4_init_6 fX4_7 rfl (by decide) rfl okX4 nmX4 rfl  (by decide +kernel) rfl (Nat.le_of_ble_eq_true rfl) ?_
  refine sg_ws (ws' := [(h0, .inr (4, [.int (nI 0), .int (nI 0), .int (nI 0)]))]) rfl ?_
  exact sg_vret h hQ dX4_init_9 rfl

set_option maxRecDepth 100000 in
set_option maxHeartbeats 4000000 in
theorem nc_X9 {l : Launch} {D : va_G} {cI cB cM : ClassId} (h0 g1 g2 : Nat) : NC l D (tyL cI cB cM) qX9_init 1 3 24 [.ref h0, .ref g1, .ref g2] [(h0, .inr (9, [.null, .null, .null, .null, .null]))] (fun u => ∃ q1 q2 q3 : Nat, u = [(h0, .inr (9, [.ref g1, .ref g2, .ref q1, .ref q2, .ref q3])), (q1, .inl (cI, 8, .inl (fun _ => nI 0))), (q2, .inl (cI, 8, .inl (fun _ => nI 0))), (q3, .inl (cI, 8, .inl (fun _ => nI 0)))]) := by
  refine NC.of rfl (by decide +kernel) (Nat.le_of_ble_eq_true rfl) (fun X A hl h hQ hnm => ?_)
  subst hl
  have h : FxS X D (tyL cI cB cM) cX9_init 3 RX9 1 3 24 := h
  have hQ : QxS X D (tyL cI cB cM) A (fun u => ∃ q1 q2 q3 : Nat, u = [(h0, .inr (9, [.ref g1, .ref g2, .ref q1, .ref q2, .ref q3])), (q1, .inl (cI, 8, .inl (fun _ => nI 0))), (q2, .inl (cI, 8, .inl (fun _ => nI 0))), (q3, .inl (cI, 8, .inl (fun _ => nI 0)))]) 3 24 := hQ
  have hnm : X.2.2.2.2.2.2.2.2.1.name = "<init>" := hnm
  show SG X D A 3 0 [(0, .ref h0), (1, .ref g1), (2, .ref g2)] [] [(h0, .inr (9, [.null, .null, .null, .null, .null]))] 0 0
  refine sg_aload_n h dX9_init_0 0 rfl ?_
  refine sg_objInit h dX9_init_1 mX9_3 wd_oi wd_oc (by decide) rfl ?_
  refine sg_aload_n h dX9_init_4 0 rfl ?_
  refine sg_aload_n h dX9_init_5 1 rfl ?_
  refine sg_putF (q0 := 0) h dX9_init_6 fX9_9 rfl (by decide) rfl okX9 nmX9 rfl  hnm rfl (okX9 0 (by decide)) rfl rfl rfl (Nat.le_of_ble_eq_true rfl) ?_
  refine sg_ws (ws' := [(h0, .inr (9, [.ref g1, .null, .null, .null, .null]))]) rfl ?_
  refine sg_aload_n h dX9_init_9 0 rfl ?_
  refine sg_aload_n h dX9_init_10 2 rfl ?_
  refine sg_putF (q0 := 0) h dX9_init_11 fX9_15 rfl (by decide) rfl okX9 nmX9 rfl  hnm rfl (okX9 1 (by decide)) rfl rfl rfl (Nat.le_of_ble_eq_true rfl) ?_
  refine sg_ws (ws' := [(h0, .inr (9, [.ref g1, .ref g2, .null, .null, .null]))]) rfl ?_
  refine sg_aload_n h dX9_init_14 0 rfl ?_
  refine sg_bipush h dX9_init_15 (by decide) ?_
  refine sg_newa (ty := .int) (t0 := 0) (cA := cI) h dX9_init_17 rfl wd_int rfl rfl (Or.inl rfl) (by decide) (Nat.le_of_ble_eq_true rfl) (Nat.le_of_ble_eq_true rfl) (fun q17 => ?_)
  refine sg_ws (ws' := [(h0, .inr (9, [.ref g1, .ref g2, .null, .null, .null])), (q17, .inl (cI, 8, .inl (fun _ => nI 0)))]) rfl ?_
  refine sg_putF (q0 := 0) h dX9_init_19 fX9_19 rfl (by decide) rfl okX9 nmX9 rfl  hnm rfl (okX9 2 (by decide)) rfl rfl rfl (Nat.le_of_ble_eq_true rfl) ?_
  refine sg_ws (ws' := [(h0, .inr (9, [.ref g1, .ref g2, .ref q17, .null, .null])), (q17, .inl (cI, 8, .inl (fun _ => nI 0)))]) rfl ?_
  refine sg_aload_n h dX9_init_22 0 rfl ?_
  refine sg_bipush h dX9_init_23 (by decide) ?_
  refine sg_newa (ty := .int) (t0 := 0) (cA := cI) h dX9_init_25 rfl wd_int rfl rfl (Or.inl rfl) (by decide) (Nat.le_of_ble_eq_true rfl) (Nat.le_of_ble_eq_true rfl) (fun q25 => ?_)
  refine sg_ws (ws' := [(h0, .inr (9, [.ref g1, .ref g2, .ref q17, .null, .null])), (q17, .inl (cI, 8, .inl (fun _ => nI 0))), (q25, .inl (cI, 8, .inl (fun _ => nI 0)))]) rfl ?_
  refine sg_putF (q0 := 0) h dX9_init_27 fX9_23 rfl (by decide) rfl okX9 nmX9 rfl  hnm rfl (okX9 3 (by decide)) rfl rfl rfl (Nat.le_of_ble_eq_true rfl) ?_
  refine sg_ws (ws' := [(h0, .inr (9, [.ref g1, .ref g2, .ref q17, .ref q25, .null])), (q17, .inl (cI, 8, .inl (fun _ => nI 0))), (q25, .inl (cI, 8, .inl (fun _ => nI 0)))]) rfl ?_
  refine sg_aload_n h dX9_init_30 0 rfl ?_
  refine sg_bipush h dX9_init_31 (by decide) ?_
  refine sg_newa (ty := .int) (t0 := 0) (cA := cI) h dX9_init_33 rfl wd_int rfl rfl (Or.inl rfl) (by decide) (Nat.le_of_ble_eq_true rfl) (Nat.le_of_ble_eq_true rfl) (fun q33 => ?_)
  refine sg_ws (ws' := [(h0, .inr (9, [.ref g1, .ref g2, .ref q17, .ref q25, .null])), (q17, .inl (cI, 8, .inl (fun _ => nI 0))), (q25, .inl (cI, 8, .inl (fun _ => nI 0))), (q33, .inl (cI, 8, .inl (fun _ => nI 0)))]) rfl ?_
  refine sg_putF (q0 := 0) h dX9_init_35 fX9_26 rfl (by decide) rfl okX9 nmX9 rfl  hnm rfl (okX9 4 (by decide)) rfl rfl rfl (Nat.le_of_ble_eq_true rfl) ?_
  refine sg_ws (ws' := [(h0, .inr (9, [.ref g1, .ref g2, .ref q17, .ref q25, .ref q33])), (q17, .inl (cI, 8, .inl (fun _ => nI 0))), (q25, .inl (cI, 8, .inl (fun _ => nI 0))), (q33, .inl (cI, 8, .inl (fun _ => nI 0)))]) rfl ?_
  refine sg_perm (ws' := [(h0, .inr (9, [.ref g1, .ref g2, .ref q17, .ref q25, .ref q33])), (q17, .inl (cI, 8, .inl (fun _ => nI 0))), (q25, .inl (cI, 8, .inl (fun _ => nI 0))), (q33, .inl (cI, 8, .inl (fun _ => nI 0)))]) [0, 1, 2, 3] rfl rfl ?_
  exact sg_vret h hQ dX9_init_38 ⟨q17, q25, q33, rfl⟩

set_option maxRecDepth 100000 in
set_option maxHeartbeats 4000000 in
theorem nc_X3_clear {l : Launch} {D : va_G} {cI cB cM : ClassId} (h0 q1 q2 q3 q4 q5 q6 : Nat) : NC l D (tyL cI cB cM) qX3_clear 1 0 0 [.ref h0] [(h0, .inr (3, [.ref q1, .ref q2, .ref q3, .ref q4, .ref q5, .ref q6])), (q1, .inl (cI, 64, .inl (fun _ => nI 0))), (q2, .inl (cI, 64, .inl (fun _ => nI 0))), (q3, .inl (cI, 8, .inl (fun _ => nI 0))), (q4, .inl (cI, 8, .inl (fun _ => nI 0))), (q5, .inl (cI, 8, .inl (fun _ => nI 0))), (q6, .inl (cI, 8, .inl (fun _ => nI 0)))] (fun u => u = [(h0, .inr (3, [.ref q1, .ref q2, .ref q3, .ref q4, .ref q5, .ref q6])), (q1, .inl (cI, 64, .inl (fun _ => nI 0))), (q2, .inl (cI, 64, .inl (fun _ => nI 0))), (q3, .inl (cI, 8, .inl (fun _ => nI 0))), (q4, .inl (cI, 8, .inl (fun _ => nI 0))), (q5, .inl (cI, 8, .inl (fun _ => nI 0))), (q6, .inl (cI, 8, .inl (fun _ => nI 0)))]) := by
  refine NC.of rfl (by decide +kernel) (Nat.le_of_ble_eq_true rfl) (fun X A hl h hQ hnm => ?_)
  subst hl
  have h : FxS X D (tyL cI cB cM) cX3_clear 1 RX3 1 0 0 := h
  have hQ : QxS X D (tyL cI cB cM) A (fun u => u = [(h0, .inr (3, [.ref q1, .ref q2, .ref q3, .ref q4, .ref q5, .ref q6])), (q1, .inl (cI, 64, .inl (fun _ => nI 0))), (q2, .inl (cI, 64, .inl (fun _ => nI 0))), (q3, .inl (cI, 8, .inl (fun _ => nI 0))), (q4, .inl (cI, 8, .inl (fun _ => nI 0))), (q5, .inl (cI, 8, .inl (fun _ => nI 0))), (q6, .inl (cI, 8, .inl (fun _ => nI 0)))]) 0 0 := hQ
  have hnm : X.2.2.2.2.2.2.2.2.1.name = "clear" := hnm
  show SG X D A 1 0 [(0, .ref h0)] [] [(h0, .inr (3, [.ref q1, .ref q2, .ref q3, .ref q4, .ref q5, .ref q6])), (q1, .inl (cI, 64, .inl (fun _ => nI 0))), (q2, .inl (cI, 64, .inl (fun _ => nI 0))), (q3, .inl (cI, 8, .inl (fun _ => nI 0))), (q4, .inl (cI, 8, .inl (fun _ => nI 0))), (q5, .inl (cI, 8, .inl (fun _ => nI 0))), (q6, .inl (cI, 8, .inl (fun _ => nI 0)))] 0 0
  refine sg_aload_n h dX3_clear_0 0 rfl ?_
  refine sg_get (q0 := 0) (v := .ref q1) h dX3_clear_1 fX3_9 rfl (by decide) rfl rfl rfl ?_
  refine sg_iconst h dX3_clear_4 (by decide) ?_
  refine sg_cs (rest := []) (wc := [(q1, .inl (cI, 64, .inl (fun _ => nI 0)))]) (wr := [(h0, .inr (3, [.ref q1, .ref q2, .ref q3, .ref q4, .ref q5, .ref q6])), (q2, .inl (cI, 64, .inl (fun _ => nI 0))), (q3, .inl (cI, 8, .inl (fun _ => nI 0))), (q4, .inl (cI, 8, .inl (fun _ => nI 0))), (q5, .inl (cI, 8, .inl (fun _ => nI 0))), (q6, .inl (cI, 8, .inl (fun _ => nI 0)))]) h (nc_fill q1 64 (by decide)) lJ7_fill_53178 mX3_30 rfl (by decide) (by decide) rfl rfl rfl dX3_clear_5 [1] [0, 2, 3, 4, 5, 6] rfl rfl rfl rfl (by decide) (Nat.le_of_ble_eq_true rfl) (Nat.le_of_ble_eq_true rfl) (fun u hu => ?_)
  subst hu
  refine sg_ws (ws' := [(h0, .inr (3, [.ref q1, .ref q2, .ref q3, .ref q4, .ref q5, .ref q6])), (q2, .inl (cI, 64, .inl (fun _ => nI 0))), (q3, .inl (cI, 8, .inl (fun _ => nI 0))), (q4, .inl (cI, 8, .inl (fun _ => nI 0))), (q5, .inl (cI, 8, .inl (fun _ => nI 0))), (q6, .inl (cI, 8, .inl (fun _ => nI 0))), (q1, .inl (cI, 64, .inl (fun _ => nI 0)))]) rfl ?_
  refine sg_aload_n h dX3_clear_8 0 rfl ?_
  refine sg_get (q0 := 0) (v := .ref q2) h dX3_clear_9 fX3_15 rfl (by decide) rfl rfl rfl ?_
  refine sg_iconst h dX3_clear_12 (by decide) ?_
  refine sg_cs (rest := []) (wc := [(q2, .inl (cI, 64, .inl (fun _ => nI 0)))]) (wr := [(h0, .inr (3, [.ref q1, .ref q2, .ref q3, .ref q4, .ref q5, .ref q6])), (q3, .inl (cI, 8, .inl (fun _ => nI 0))), (q4, .inl (cI, 8, .inl (fun _ => nI 0))), (q5, .inl (cI, 8, .inl (fun _ => nI 0))), (q6, .inl (cI, 8, .inl (fun _ => nI 0))), (q1, .inl (cI, 64, .inl (fun _ => nI 0)))]) h (nc_fill q2 64 (by decide)) lJ7_fill_53178 mX3_30 rfl (by decide) (by decide) rfl rfl rfl dX3_clear_13 [1] [0, 2, 3, 4, 5, 6] rfl rfl rfl rfl (by decide) (Nat.le_of_ble_eq_true rfl) (Nat.le_of_ble_eq_true rfl) (fun u hu => ?_)
  subst hu
  refine sg_ws (ws' := [(h0, .inr (3, [.ref q1, .ref q2, .ref q3, .ref q4, .ref q5, .ref q6])), (q3, .inl (cI, 8, .inl (fun _ => nI 0))), (q4, .inl (cI, 8, .inl (fun _ => nI 0))), (q5, .inl (cI, 8, .inl (fun _ => nI 0))), (q6, .inl (cI, 8, .inl (fun _ => nI 0))), (q1, .inl (cI, 64, .inl (fun _ => nI 0))), (q2, .inl (cI, 64, .inl (fun _ => nI 0)))]) rfl ?_
  refine sg_aload_n h dX3_clear_16 0 rfl ?_
  refine sg_get (q0 := 0) (v := .ref q3) h dX3_clear_17 fX3_18 rfl (by decide) rfl rfl rfl ?_
  refine sg_iconst h dX3_clear_20 (by decide) ?_
  refine sg_cs (rest := []) (wc := [(q3, .inl (cI, 8, .inl (fun _ => nI 0)))]) (wr := [(h0, .inr (3, [.ref q1, .ref q2, .ref q3, .ref q4, .ref q5, .ref q6])), (q4, .inl (cI, 8, .inl (fun _ => nI 0))), (q5, .inl (cI, 8, .inl (fun _ => nI 0))), (q6, .inl (cI, 8, .inl (fun _ => nI 0))), (q1, .inl (cI, 64, .inl (fun _ => nI 0))), (q2, .inl (cI, 64, .inl (fun _ => nI 0)))]) h (nc_fill q3 8 (by decide)) lJ7_fill_53178 mX3_30 rfl (by decide) (by decide) rfl rfl rfl dX3_clear_21 [1] [0, 2, 3, 4, 5, 6] rfl rfl rfl rfl (by decide) (Nat.le_of_ble_eq_true rfl) (Nat.le_of_ble_eq_true rfl) (fun u hu => ?_)
  subst hu
  refine sg_ws (ws' := [(h0, .inr (3, [.ref q1, .ref q2, .ref q3, .ref q4, .ref q5, .ref q6])), (q4, .inl (cI, 8, .inl (fun _ => nI 0))), (q5, .inl (cI, 8, .inl (fun _ => nI 0))), (q6, .inl (cI, 8, .inl (fun _ => nI 0))), (q1, .inl (cI, 64, .inl (fun _ => nI 0))), (q2, .inl (cI, 64, .inl (fun _ => nI 0))), (q3, .inl (cI, 8, .inl (fun _ => nI 0)))]) rfl ?_
  refine sg_aload_n h dX3_clear_24 0 rfl ?_
  refine sg_get (q0 := 0) (v := .ref q4) h dX3_clear_25 fX3_21 rfl (by decide) rfl rfl rfl ?_
  refine sg_iconst h dX3_clear_28 (by decide) ?_
  refine sg_cs (rest := []) (wc := [(q4, .inl (cI, 8, .inl (fun _ => nI 0)))]) (wr := [(h0, .inr (3, [.ref q1, .ref q2, .ref q3, .ref q4, .ref q5, .ref q6])), (q5, .inl (cI, 8, .inl (fun _ => nI 0))), (q6, .inl (cI, 8, .inl (fun _ => nI 0))), (q1, .inl (cI, 64, .inl (fun _ => nI 0))), (q2, .inl (cI, 64, .inl (fun _ => nI 0))), (q3, .inl (cI, 8, .inl (fun _ => nI 0)))]) h (nc_fill q4 8 (by decide)) lJ7_fill_53178 mX3_30 rfl (by decide) (by decide) rfl rfl rfl dX3_clear_29 [1] [0, 2, 3, 4, 5, 6] rfl rfl rfl rfl (by decide) (Nat.le_of_ble_eq_true rfl) (Nat.le_of_ble_eq_true rfl) (fun u hu => ?_)
  subst hu
  refine sg_ws (ws' := [(h0, .inr (3, [.ref q1, .ref q2, .ref q3, .ref q4, .ref q5, .ref q6])), (q5, .inl (cI, 8, .inl (fun _ => nI 0))), (q6, .inl (cI, 8, .inl (fun _ => nI 0))), (q1, .inl (cI, 64, .inl (fun _ => nI 0))), (q2, .inl (cI, 64, .inl (fun _ => nI 0))), (q3, .inl (cI, 8, .inl (fun _ => nI 0))), (q4, .inl (cI, 8, .inl (fun _ => nI 0)))]) rfl ?_
  refine sg_aload_n h dX3_clear_32 0 rfl ?_
  refine sg_get (q0 := 0) (v := .ref q5) h dX3_clear_33 fX3_24 rfl (by decide) rfl rfl rfl ?_
  refine sg_iconst h dX3_clear_36 (by decide) ?_
  refine sg_cs (rest := []) (wc := [(q5, .inl (cI, 8, .inl (fun _ => nI 0)))]) (wr := [(h0, .inr (3, [.ref q1, .ref q2, .ref q3, .ref q4, .ref q5, .ref q6])), (q6, .inl (cI, 8, .inl (fun _ => nI 0))), (q1, .inl (cI, 64, .inl (fun _ => nI 0))), (q2, .inl (cI, 64, .inl (fun _ => nI 0))), (q3, .inl (cI, 8, .inl (fun _ => nI 0))), (q4, .inl (cI, 8, .inl (fun _ => nI 0)))]) h (nc_fill q5 8 (by decide)) lJ7_fill_53178 mX3_30 rfl (by decide) (by decide) rfl rfl rfl dX3_clear_37 [1] [0, 2, 3, 4, 5, 6] rfl rfl rfl rfl (by decide) (Nat.le_of_ble_eq_true rfl) (Nat.le_of_ble_eq_true rfl) (fun u hu => ?_)
  subst hu
  refine sg_ws (ws' := [(h0, .inr (3, [.ref q1, .ref q2, .ref q3, .ref q4, .ref q5, .ref q6])), (q6, .inl (cI, 8, .inl (fun _ => nI 0))), (q1, .inl (cI, 64, .inl (fun _ => nI 0))), (q2, .inl (cI, 64, .inl (fun _ => nI 0))), (q3, .inl (cI, 8, .inl (fun _ => nI 0))), (q4, .inl (cI, 8, .inl (fun _ => nI 0))), (q5, .inl (cI, 8, .inl (fun _ => nI 0)))]) rfl ?_
  refine sg_aload_n h dX3_clear_40 0 rfl ?_
  refine sg_get (q0 := 0) (v := .ref q6) h dX3_clear_41 fX3_27 rfl (by decide) rfl rfl rfl ?_
  refine sg_iconst h dX3_clear_44 (by decide) ?_
  refine sg_cs (rest := []) (wc := [(q6, .inl (cI, 8, .inl (fun _ => nI 0)))]) (wr := [(h0, .inr (3, [.ref q1, .ref q2, .ref q3, .ref q4, .ref q5, .ref q6])), (q1, .inl (cI, 64, .inl (fun _ => nI 0))), (q2, .inl (cI, 64, .inl (fun _ => nI 0))), (q3, .inl (cI, 8, .inl (fun _ => nI 0))), (q4, .inl (cI, 8, .inl (fun _ => nI 0))), (q5, .inl (cI, 8, .inl (fun _ => nI 0)))]) h (nc_fill q6 8 (by decide)) lJ7_fill_53178 mX3_30 rfl (by decide) (by decide) rfl rfl rfl dX3_clear_45 [1] [0, 2, 3, 4, 5, 6] rfl rfl rfl rfl (by decide) (Nat.le_of_ble_eq_true rfl) (Nat.le_of_ble_eq_true rfl) (fun u hu => ?_)
  subst hu
  refine sg_ws (ws' := [(h0, .inr (3, [.ref q1, .ref q2, .ref q3, .ref q4, .ref q5, .ref q6])), (q1, .inl (cI, 64, .inl (fun _ => nI 0))), (q2, .inl (cI, 64, .inl (fun _ => nI 0))), (q3, .inl (cI, 8, .inl (fun _ => nI 0))), (q4, .inl (cI, 8, .inl (fun _ => nI 0))), (q5, .inl (cI, 8, .inl (fun _ => nI 0))), (q6, .inl (cI, 8, .inl (fun _ => nI 0)))]) rfl ?_
  exact sg_vret h hQ dX3_clear_48 rfl

set_option maxRecDepth 100000 in
set_option maxHeartbeats 4000000 in
theorem nc_X6_clear {l : Launch} {D : va_G} {cI cB cM : ClassId} (h0 q1 q2 q3 q4 q5 q6 : Nat) : NC l D (tyL cI cB cM) qX6_clear 1 0 0 [.ref h0] [(h0, .inr (6, [.ref q1, .ref q2, .ref q3, .ref q4, .ref q5, .ref q6, .int (nI 0), .int (nI 0), .int (nI 0)])), (q1, .inl (cI, 64, .inl (fun _ => nI 0))), (q2, .inl (cI, 64, .inl (fun _ => nI 0))), (q3, .inl (cI, 64, .inl (fun _ => nI 0))), (q4, .inl (cI, 8, .inl (fun _ => nI 0))), (q5, .inl (cI, 8, .inl (fun _ => nI 0))), (q6, .inl (cI, 64, .inl (fun _ => nI 0)))] (fun u => u = [(h0, .inr (6, [.ref q1, .ref q2, .ref q3, .ref q4, .ref q5, .ref q6, .int (nI 0), .int (nI 0), .int (nI 0)])), (q1, .inl (cI, 64, .inl (fun _ => nI 0))), (q2, .inl (cI, 64, .inl (fun _ => nI 0))), (q3, .inl (cI, 64, .inl (fun _ => nI 0))), (q4, .inl (cI, 8, .inl (fun _ => nI 0))), (q5, .inl (cI, 8, .inl (fun _ => nI 0))), (q6, .inl (cI, 64, .inl (fun _ => nI 0)))]) := by
  refine NC.of rfl (by decide +kernel) (Nat.le_of_ble_eq_true rfl) (fun X A hl h hQ hnm => ?_)
  subst hl
  have h : FxS X D (tyL cI cB cM) cX6_clear 1 RX6 1 0 0 := h
  have hQ : QxS X D (tyL cI cB cM) A (fun u => u = [(h0, .inr (6, [.ref q1, .ref q2, .ref q3, .ref q4, .ref q5, .ref q6, .int (nI 0), .int (nI 0), .int (nI 0)])), (q1, .inl (cI, 64, .inl (fun _ => nI 0))), (q2, .inl (cI, 64, .inl (fun _ => nI 0))), (q3, .inl (cI, 64, .inl (fun _ => nI 0))), (q4, .inl (cI, 8, .inl (fun _ => nI 0))), (q5, .inl (cI, 8, .inl (fun _ => nI 0))), (q6, .inl (cI, 64, .inl (fun _ => nI 0)))]) 0 0 := hQ
  have hnm : X.2.2.2.2.2.2.2.2.1.name = "clear" := hnm
  show SG X D A 1 0 [(0, .ref h0)] [] [(h0, .inr (6, [.ref q1, .ref q2, .ref q3, .ref q4, .ref q5, .ref q6, .int (nI 0), .int (nI 0), .int (nI 0)])), (q1, .inl (cI, 64, .inl (fun _ => nI 0))), (q2, .inl (cI, 64, .inl (fun _ => nI 0))), (q3, .inl (cI, 64, .inl (fun _ => nI 0))), (q4, .inl (cI, 8, .inl (fun _ => nI 0))), (q5, .inl (cI, 8, .inl (fun _ => nI 0))), (q6, .inl (cI, 64, .inl (fun _ => nI 0)))] 0 0
  refine sg_aload_n h dX6_clear_0 0 rfl ?_
  refine sg_get (q0 := 0) (v := .ref q1) h dX6_clear_1 fX6_9 rfl (by decide) rfl rfl rfl ?_
  refine sg_iconst h dX6_clear_4 (by decide) ?_
  refine sg_cs (rest := []) (wc := [(q1, .inl (cI, 64, .inl (fun _ => nI 0)))]) (wr := [(h0, .inr (6, [.ref q1, .ref q2, .ref q3, .ref q4, .ref q5, .ref q6, .int (nI 0), .int (nI 0), .int (nI 0)])), (q2, .inl (cI, 64, .inl (fun _ => nI 0))), (q3, .inl (cI, 64, .inl (fun _ => nI 0))), (q4, .inl (cI, 8, .inl (fun _ => nI 0))), (q5, .inl (cI, 8, .inl (fun _ => nI 0))), (q6, .inl (cI, 64, .inl (fun _ => nI 0)))]) h (nc_fill q1 64 (by decide)) lJ7_fill_53178 mX6_30 rfl (by decide) (by decide) rfl rfl rfl dX6_clear_5 [1] [0, 2, 3, 4, 5, 6] rfl rfl rfl rfl (by decide) (Nat.le_of_ble_eq_true rfl) (Nat.le_of_ble_eq_true rfl) (fun u hu => ?_)
  subst hu
  refine sg_ws (ws' := [(h0, .inr (6, [.ref q1, .ref q2, .ref q3, .ref q4, .ref q5, .ref q6, .int (nI 0), .int (nI 0), .int (nI 0)])), (q2, .inl (cI, 64, .inl (fun _ => nI 0))), (q3, .inl (cI, 64, .inl (fun _ => nI 0))), (q4, .inl (cI, 8, .inl (fun _ => nI 0))), (q5, .inl (cI, 8, .inl (fun _ => nI 0))), (q6, .inl (cI, 64, .inl (fun _ => nI 0))), (q1, .inl (cI, 64, .inl (fun _ => nI 0)))]) rfl ?_
  refine sg_aload_n h dX6_clear_8 0 rfl ?_
  refine sg_get (q0 := 0) (v := .ref q2) h dX6_clear_9 fX6_15 rfl (by decide) rfl rfl rfl ?_
  refine sg_iconst h dX6_clear_12 (by decide) ?_
  refine sg_cs (rest := []) (wc := [(q2, .inl (cI, 64, .inl (fun _ => nI 0)))]) (wr := [(h0, .inr (6, [.ref q1, .ref q2, .ref q3, .ref q4, .ref q5, .ref q6, .int (nI 0), .int (nI 0), .int (nI 0)])), (q3, .inl (cI, 64, .inl (fun _ => nI 0))), (q4, .inl (cI, 8, .inl (fun _ => nI 0))), (q5, .inl (cI, 8, .inl (fun _ => nI 0))), (q6, .inl (cI, 64, .inl (fun _ => nI 0))), (q1, .inl (cI, 64, .inl (fun _ => nI 0)))]) h (nc_fill q2 64 (by decide)) lJ7_fill_53178 mX6_30 rfl (by decide) (by decide) rfl rfl rfl dX6_clear_13 [1] [0, 2, 3, 4, 5, 6] rfl rfl rfl rfl (by decide) (Nat.le_of_ble_eq_true rfl) (Nat.le_of_ble_eq_true rfl) (fun u hu => ?_)
  subst hu
  refine sg_ws (ws' := [(h0, .inr (6, [.ref q1, .ref q2, .ref q3, .ref q4, .ref q5, .ref q6, .int (nI 0), .int (nI 0), .int (nI 0)])), (q3, .inl (cI, 64, .inl (fun _ => nI 0))), (q4, .inl (cI, 8, .inl (fun _ => nI 0))), (q5, .inl (cI, 8, .inl (fun _ => nI 0))), (q6, .inl (cI, 64, .inl (fun _ => nI 0))), (q1, .inl (cI, 64, .inl (fun _ => nI 0))), (q2, .inl (cI, 64, .inl (fun _ => nI 0)))]) rfl ?_
  refine sg_aload_n h dX6_clear_16 0 rfl ?_
  refine sg_get (q0 := 0) (v := .ref q3) h dX6_clear_17 fX6_18 rfl (by decide) rfl rfl rfl ?_
  refine sg_iconst h dX6_clear_20 (by decide) ?_
  refine sg_cs (rest := []) (wc := [(q3, .inl (cI, 64, .inl (fun _ => nI 0)))]) (wr := [(h0, .inr (6, [.ref q1, .ref q2, .ref q3, .ref q4, .ref q5, .ref q6, .int (nI 0), .int (nI 0), .int (nI 0)])), (q4, .inl (cI, 8, .inl (fun _ => nI 0))), (q5, .inl (cI, 8, .inl (fun _ => nI 0))), (q6, .inl (cI, 64, .inl (fun _ => nI 0))), (q1, .inl (cI, 64, .inl (fun _ => nI 0))), (q2, .inl (cI, 64, .inl (fun _ => nI 0)))]) h (nc_fill q3 64 (by decide)) lJ7_fill_53178 mX6_30 rfl (by decide) (by decide) rfl rfl rfl dX6_clear_21 [1] [0, 2, 3, 4, 5, 6] rfl rfl rfl rfl (by decide) (Nat.le_of_ble_eq_true rfl) (Nat.le_of_ble_eq_true rfl) (fun u hu => ?_)
  subst hu
  refine sg_ws (ws' := [(h0, .inr (6, [.ref q1, .ref q2, .ref q3, .ref q4, .ref q5, .ref q6, .int (nI 0), .int (nI 0), .int (nI 0)])), (q4, .inl (cI, 8, .inl (fun _ => nI 0))), (q5, .inl (cI, 8, .inl (fun _ => nI 0))), (q6, .inl (cI, 64, .inl (fun _ => nI 0))), (q1, .inl (cI, 64, .inl (fun _ => nI 0))), (q2, .inl (cI, 64, .inl (fun _ => nI 0))), (q3, .inl (cI, 64, .inl (fun _ => nI 0)))]) rfl ?_
  refine sg_aload_n h dX6_clear_24 0 rfl ?_
  refine sg_get (q0 := 0) (v := .ref q4) h dX6_clear_25 fX6_21 rfl (by decide) rfl rfl rfl ?_
  refine sg_iconst h dX6_clear_28 (by decide) ?_
  refine sg_cs (rest := []) (wc := [(q4, .inl (cI, 8, .inl (fun _ => nI 0)))]) (wr := [(h0, .inr (6, [.ref q1, .ref q2, .ref q3, .ref q4, .ref q5, .ref q6, .int (nI 0), .int (nI 0), .int (nI 0)])), (q5, .inl (cI, 8, .inl (fun _ => nI 0))), (q6, .inl (cI, 64, .inl (fun _ => nI 0))), (q1, .inl (cI, 64, .inl (fun _ => nI 0))), (q2, .inl (cI, 64, .inl (fun _ => nI 0))), (q3, .inl (cI, 64, .inl (fun _ => nI 0)))]) h (nc_fill q4 8 (by decide)) lJ7_fill_53178 mX6_30 rfl (by decide) (by decide) rfl rfl rfl dX6_clear_29 [1] [0, 2, 3, 4, 5, 6] rfl rfl rfl rfl (by decide) (Nat.le_of_ble_eq_true rfl) (Nat.le_of_ble_eq_true rfl) (fun u hu => ?_)
  subst hu
  refine sg_ws (ws' := [(h0, .inr (6, [.ref q1, .ref q2, .ref q3, .ref q4, .ref q5, .ref q6, .int (nI 0), .int (nI 0), .int (nI 0)])), (q5, .inl (cI, 8, .inl (fun _ => nI 0))), (q6, .inl (cI, 64, .inl (fun _ => nI 0))), (q1, .inl (cI, 64, .inl (fun _ => nI 0))), (q2, .inl (cI, 64, .inl (fun _ => nI 0))), (q3, .inl (cI, 64, .inl (fun _ => nI 0))), (q4, .inl (cI, 8, .inl (fun _ => nI 0)))]) rfl ?_
  refine sg_aload_n h dX6_clear_32 0 rfl ?_
  refine sg_get (q0 := 0) (v := .ref q5) h dX6_clear_33 fX6_24 rfl (by decide) rfl rfl rfl ?_
  refine sg_iconst h dX6_clear_36 (by decide) ?_
  refine sg_cs (rest := []) (wc := [(q5, .inl (cI, 8, .inl (fun _ => nI 0)))]) (wr := [(h0, .inr (6, [.ref q1, .ref q2, .ref q3, .ref q4, .ref q5, .ref q6, .int (nI 0), .int (nI 0), .int (nI 0)])), (q6, .inl (cI, 64, .inl (fun _ => nI 0))), (q1, .inl (cI, 64, .inl (fun _ => nI 0))), (q2, .inl (cI, 64, .inl (fun _ => nI 0))), (q3, .inl (cI, 64, .inl (fun _ => nI 0))), (q4, .inl (cI, 8, .inl (fun _ => nI 0)))]) h (nc_fill q5 8 (by decide)) lJ7_fill_53178 mX6_30 rfl (by decide) (by decide) rfl rfl rfl dX6_clear_37 [1] [0, 2, 3, 4, 5, 6] rfl rfl rfl rfl (by decide) (Nat.le_of_ble_eq_true rfl) (Nat.le_of_ble_eq_true rfl) (fun u hu => ?_)
  subst hu
  refine sg_ws (ws' := [(h0, .inr (6, [.ref q1, .ref q2, .ref q3, .ref q4, .ref q5, .ref q6, .int (nI 0), .int (nI 0), .int (nI 0)])), (q6, .inl (cI, 64, .inl (fun _ => nI 0))), (q1, .inl (cI, 64, .inl (fun _ => nI 0))), (q2, .inl (cI, 64, .inl (fun _ => nI 0))), (q3, .inl (cI, 64, .inl (fun _ => nI 0))), (q4, .inl (cI, 8, .inl (fun _ => nI 0))), (q5, .inl (cI, 8, .inl (fun _ => nI 0)))]) rfl ?_
  refine sg_aload_n h dX6_clear_40 0 rfl ?_
  refine sg_get (q0 := 0) (v := .ref q6) h dX6_clear_41 fX6_27 rfl (by decide) rfl rfl rfl ?_
  refine sg_iconst h dX6_clear_44 (by decide) ?_
  refine sg_cs (rest := []) (wc := [(q6, .inl (cI, 64, .inl (fun _ => nI 0)))]) (wr := [(h0, .inr (6, [.ref q1, .ref q2, .ref q3, .ref q4, .ref q5, .ref q6, .int (nI 0), .int (nI 0), .int (nI 0)])), (q1, .inl (cI, 64, .inl (fun _ => nI 0))), (q2, .inl (cI, 64, .inl (fun _ => nI 0))), (q3, .inl (cI, 64, .inl (fun _ => nI 0))), (q4, .inl (cI, 8, .inl (fun _ => nI 0))), (q5, .inl (cI, 8, .inl (fun _ => nI 0)))]) h (nc_fill q6 64 (by decide)) lJ7_fill_53178 mX6_30 rfl (by decide) (by decide) rfl rfl rfl dX6_clear_45 [1] [0, 2, 3, 4, 5, 6] rfl rfl rfl rfl (by decide) (Nat.le_of_ble_eq_true rfl) (Nat.le_of_ble_eq_true rfl) (fun u hu => ?_)
  subst hu
  refine sg_ws (ws' := [(h0, .inr (6, [.ref q1, .ref q2, .ref q3, .ref q4, .ref q5, .ref q6, .int (nI 0), .int (nI 0), .int (nI 0)])), (q1, .inl (cI, 64, .inl (fun _ => nI 0))), (q2, .inl (cI, 64, .inl (fun _ => nI 0))), (q3, .inl (cI, 64, .inl (fun _ => nI 0))), (q4, .inl (cI, 8, .inl (fun _ => nI 0))), (q5, .inl (cI, 8, .inl (fun _ => nI 0))), (q6, .inl (cI, 64, .inl (fun _ => nI 0)))]) rfl ?_
  refine sg_aload_n h dX6_clear_48 0 rfl ?_
  refine sg_iconst h dX6_clear_49 (by decide) ?_
  refine sg_puti (q0 := 0) h dX6_clear_50 fX6_36 rfl (by decide) rfl okX6 nmX6 rfl  (by decide +kernel) rfl (Nat.le_of_ble_eq_true rfl) ?_
  refine sg_ws (ws' := [(h0, .inr (6, [.ref q1, .ref q2, .ref q3, .ref q4, .ref q5, .ref q6, .int (nI 0), .int (nI 0), .int (nI 0)])), (q1, .inl (cI, 64, .inl (fun _ => nI 0))), (q2, .inl (cI, 64, .inl (fun _ => nI 0))), (q3, .inl (cI, 64, .inl (fun _ => nI 0))), (q4, .inl (cI, 8, .inl (fun _ => nI 0))), (q5, .inl (cI, 8, .inl (fun _ => nI 0))), (q6, .inl (cI, 64, .inl (fun _ => nI 0)))]) rfl ?_
  refine sg_aload_n h dX6_clear_53 0 rfl ?_
  refine sg_iconst h dX6_clear_54 (by decide) ?_
  refine sg_puti (q0 := 0) h dX6_clear_55 fX6_40 rfl (by decide) rfl okX6 nmX6 rfl  (by decide +kernel) rfl (Nat.le_of_ble_eq_true rfl) ?_
  refine sg_ws (ws' := [(h0, .inr (6, [.ref q1, .ref q2, .ref q3, .ref q4, .ref q5, .ref q6, .int (nI 0), .int (nI 0), .int (nI 0)])), (q1, .inl (cI, 64, .inl (fun _ => nI 0))), (q2, .inl (cI, 64, .inl (fun _ => nI 0))), (q3, .inl (cI, 64, .inl (fun _ => nI 0))), (q4, .inl (cI, 8, .inl (fun _ => nI 0))), (q5, .inl (cI, 8, .inl (fun _ => nI 0))), (q6, .inl (cI, 64, .inl (fun _ => nI 0)))]) rfl ?_
  refine sg_aload_n h dX6_clear_58 0 rfl ?_
  refine sg_iconst h dX6_clear_59 (by decide) ?_
  refine sg_puti (q0 := 0) h dX6_clear_60 fX6_43 rfl (by decide) rfl okX6 nmX6 rfl  (by decide +kernel) rfl (Nat.le_of_ble_eq_true rfl) ?_
  refine sg_ws (ws' := [(h0, .inr (6, [.ref q1, .ref q2, .ref q3, .ref q4, .ref q5, .ref q6, .int (nI 0), .int (nI 0), .int (nI 0)])), (q1, .inl (cI, 64, .inl (fun _ => nI 0))), (q2, .inl (cI, 64, .inl (fun _ => nI 0))), (q3, .inl (cI, 64, .inl (fun _ => nI 0))), (q4, .inl (cI, 8, .inl (fun _ => nI 0))), (q5, .inl (cI, 8, .inl (fun _ => nI 0))), (q6, .inl (cI, 64, .inl (fun _ => nI 0)))]) rfl ?_
  exact sg_vret h hQ dX6_clear_63 rfl

set_option maxRecDepth 100000 in
set_option maxHeartbeats 4000000 in
theorem nc_X5_clear {l : Launch} {D : va_G} {cI cB cM : ClassId} (h0 a1 a2 a3 a4 b1 b2 b3 b4 b5 b6 a11 c1 c2 c3 c4 c5 c6 : Nat) : NC l D (tyL cI cB cM) qX5_clear 2 0 0 [.ref h0] [(h0, .inr (5, [.int (nI 0), .int (nI 0), .int (nI 0), .int (nI 0), .int (nI 0), .int (nI 0), .int (nI 0), .ref a1, .ref a2, .ref a3, .ref a4, .ref a11])), (a1, .inl (cI, 8, .inl (fun _ => nI 0))), (a2, .inl (cI, 8, .inl (fun _ => nI 0))), (a3, .inl (cI, 64, .inl (fun _ => nI 0))), (a4, .inr (3, [.ref b1, .ref b2, .ref b3, .ref b4, .ref b5, .ref b6])), (b1, .inl (cI, 64, .inl (fun _ => nI 0))), (b2, .inl (cI, 64, .inl (fun _ => nI 0))), (b3, .inl (cI, 8, .inl (fun _ => nI 0))), (b4, .inl (cI, 8, .inl (fun _ => nI 0))), (b5, .inl (cI, 8, .inl (fun _ => nI 0))), (b6, .inl (cI, 8, .inl (fun _ => nI 0))), (a11, .inr (6, [.ref c1, .ref c2, .ref c3, .ref c4, .ref c5, .ref c6, .int (nI 0), .int (nI 0), .int (nI 0)])), (c1, .inl (cI, 64, .inl (fun _ => nI 0))), (c2, .inl (cI, 64, .inl (fun _ => nI 0))), (c3, .inl (cI, 64, .inl (fun _ => nI 0))), (c4, .inl (cI, 8, .inl (fun _ => nI 0))), (c5, .inl (cI, 8, .inl (fun _ => nI 0))), (c6, .inl (cI, 64, .inl (fun _ => nI 0)))] (fun u => u = [(h0, .inr (5, [.int (nI 0), .int (nI 0), .int (nI 0), .int (nI 2), .int (nI 6), .int (nI 700), .int (nI 300), .ref a1, .ref a2, .ref a3, .ref a4, .ref a11])), (a1, .inl (cI, 8, .inl (fun _ => nI 0))), (a2, .inl (cI, 8, .inl (fun _ => nI 0))), (a3, .inl (cI, 64, .inl (fun _ => nI 0))), (a4, .inr (3, [.ref b1, .ref b2, .ref b3, .ref b4, .ref b5, .ref b6])), (b1, .inl (cI, 64, .inl (fun _ => nI 0))), (b2, .inl (cI, 64, .inl (fun _ => nI 0))), (b3, .inl (cI, 8, .inl (fun _ => nI 0))), (b4, .inl (cI, 8, .inl (fun _ => nI 0))), (b5, .inl (cI, 8, .inl (fun _ => nI 0))), (b6, .inl (cI, 8, .inl (fun _ => nI 0))), (a11, .inr (6, [.ref c1, .ref c2, .ref c3, .ref c4, .ref c5, .ref c6, .int (nI 0), .int (nI 0), .int (nI 0)])), (c1, .inl (cI, 64, .inl (fun _ => nI 0))), (c2, .inl (cI, 64, .inl (fun _ => nI 0))), (c3, .inl (cI, 64, .inl (fun _ => nI 0))), (c4, .inl (cI, 8, .inl (fun _ => nI 0))), (c5, .inl (cI, 8, .inl (fun _ => nI 0))), (c6, .inl (cI, 64, .inl (fun _ => nI 0)))]) := by
  refine NC.of rfl (by decide +kernel) (Nat.le_of_ble_eq_true rfl) (fun X A hl h hQ hnm => ?_)
  subst hl
  have h : FxS X D (tyL cI cB cM) cX5_clear 1 RX5 2 0 0 := h
  have hQ : QxS X D (tyL cI cB cM) A (fun u => u = [(h0, .inr (5, [.int (nI 0), .int (nI 0), .int (nI 0), .int (nI 2), .int (nI 6), .int (nI 700), .int (nI 300), .ref a1, .ref a2, .ref a3, .ref a4, .ref a11])), (a1, .inl (cI, 8, .inl (fun _ => nI 0))), (a2, .inl (cI, 8, .inl (fun _ => nI 0))), (a3, .inl (cI, 64, .inl (fun _ => nI 0))), (a4, .inr (3, [.ref b1, .ref b2, .ref b3, .ref b4, .ref b5, .ref b6])), (b1, .inl (cI, 64, .inl (fun _ => nI 0))), (b2, .inl (cI, 64, .inl (fun _ => nI 0))), (b3, .inl (cI, 8, .inl (fun _ => nI 0))), (b4, .inl (cI, 8, .inl (fun _ => nI 0))), (b5, .inl (cI, 8, .inl (fun _ => nI 0))), (b6, .inl (cI, 8, .inl (fun _ => nI 0))), (a11, .inr (6, [.ref c1, .ref c2, .ref c3, .ref c4, .ref c5, .ref c6, .int (nI 0), .int (nI 0), .int (nI 0)])), (c1, .inl (cI, 64, .inl (fun _ => nI 0))), (c2, .inl (cI, 64, .inl (fun _ => nI 0))), (c3, .inl (cI, 64, .inl (fun _ => nI 0))), (c4, .inl (cI, 8, .inl (fun _ => nI 0))), (c5, .inl (cI, 8, .inl (fun _ => nI 0))), (c6, .inl (cI, 64, .inl (fun _ => nI 0)))]) 0 0 := hQ
  have hnm : X.2.2.2.2.2.2.2.2.1.name = "clear" := hnm
  show SG X D A 1 0 [(0, .ref h0)] [] [(h0, .inr (5, [.int (nI 0), .int (nI 0), .int (nI 0), .int (nI 0), .int (nI 0), .int (nI 0), .int (nI 0), .ref a1, .ref a2, .ref a3, .ref a4, .ref a11])), (a1, .inl (cI, 8, .inl (fun _ => nI 0))), (a2, .inl (cI, 8, .inl (fun _ => nI 0))), (a3, .inl (cI, 64, .inl (fun _ => nI 0))), (a4, .inr (3, [.ref b1, .ref b2, .ref b3, .ref b4, .ref b5, .ref b6])), (b1, .inl (cI, 64, .inl (fun _ => nI 0))), (b2, .inl (cI, 64, .inl (fun _ => nI 0))), (b3, .inl (cI, 8, .inl (fun _ => nI 0))), (b4, .inl (cI, 8, .inl (fun _ => nI 0))), (b5, .inl (cI, 8, .inl (fun _ => nI 0))), (b6, .inl (cI, 8, .inl (fun _ => nI 0))), (a11, .inr (6, [.ref c1, .ref c2, .ref c3, .ref c4, .ref c5, .ref c6, .int (nI 0), .int (nI 0), .int (nI 0)])), (c1, .inl (cI, 64, .inl (fun _ => nI 0))), (c2, .inl (cI, 64, .inl (fun _ => nI 0))), (c3, .inl (cI, 64, .inl (fun _ => nI 0))), (c4, .inl (cI, 8, .inl (fun _ => nI 0))), (c5, .inl (cI, 8, .inl (fun _ => nI 0))), (c6, .inl (cI, 64, .inl (fun _ => nI 0)))] 0 0
  refine sg_aload_n h dX5_clear_0 0 rfl ?_
  refine sg_iconst h dX5_clear_1 (by decide) ?_
  refine sg_puti (q0 := 0) h dX5_clear_2 fX5_38 rfl (by decide) rfl okX5 nmX5 rfl  (by decide +kernel) rfl (Nat.le_of_ble_eq_true rfl) ?_
  refine sg_ws (ws' := [(h0, .inr (5, [.int (nI 0), .int (nI 0), .int (nI 0), .int (nI 0), .int (nI 0), .int (nI 0), .int (nI 0), .ref a1, .ref a2, .ref a3, .ref a4, .ref a11])), (a1, .inl (cI, 8, .inl (fun _ => nI 0))), (a2, .inl (cI, 8, .inl (fun _ => nI 0))), (a3, .inl (cI, 64, .inl (fun _ => nI 0))), (a4, .inr (3, [.ref b1, .ref b2, .ref b3, .ref b4, .ref b5, .ref b6])), (b1, .inl (cI, 64, .inl (fun _ => nI 0))), (b2, .inl (cI, 64, .inl (fun _ => nI 0))), (b3, .inl (cI, 8, .inl (fun _ => nI 0))), (b4, .inl (cI, 8, .inl (fun _ => nI 0))), (b5, .inl (cI, 8, .inl (fun _ => nI 0))), (b6, .inl (cI, 8, .inl (fun _ => nI 0))), (a11, .inr (6, [.ref c1, .ref c2, .ref c3, .ref c4, .ref c5, .ref c6, .int (nI 0), .int (nI 0), .int (nI 0)])), (c1, .inl (cI, 64, .inl (fun _ => nI 0))), (c2, .inl (cI, 64, .inl (fun _ => nI 0))), (c3, .inl (cI, 64, .inl (fun _ => nI 0))), (c4, .inl (cI, 8, .inl (fun _ => nI 0))), (c5, .inl (cI, 8, .inl (fun _ => nI 0))), (c6, .inl (cI, 64, .inl (fun _ => nI 0)))]) rfl ?_
  refine sg_aload_n h dX5_clear_5 0 rfl ?_
  refine sg_iconst h dX5_clear_6 (by decide) ?_
  refine sg_puti (q0 := 0) h dX5_clear_7 fX5_42 rfl (by decide) rfl okX5 nmX5 rfl  (by decide +kernel) rfl (Nat.le_of_ble_eq_true rfl) ?_
  refine sg_ws (ws' := [(h0, .inr (5, [.int (nI 0), .int (nI 0), .int (nI 0), .int (nI 0), .int (nI 0), .int (nI 0), .int (nI 0), .ref a1, .ref a2, .ref a3, .ref a4, .ref a11])), (a1, .inl (cI, 8, .inl (fun _ => nI 0))), (a2, .inl (cI, 8, .inl (fun _ => nI 0))), (a3, .inl (cI, 64, .inl (fun _ => nI 0))), (a4, .inr (3, [.ref b1, .ref b2, .ref b3, .ref b4, .ref b5, .ref b6])), (b1, .inl (cI, 64, .inl (fun _ => nI 0))), (b2, .inl (cI, 64, .inl (fun _ => nI 0))), (b3, .inl (cI, 8, .inl (fun _ => nI 0))), (b4, .inl (cI, 8, .inl (fun _ => nI 0))), (b5, .inl (cI, 8, .inl (fun _ => nI 0))), (b6, .inl (cI, 8, .inl (fun _ => nI 0))), (a11, .inr (6, [.ref c1, .ref c2, .ref c3, .ref c4, .ref c5, .ref c6, .int (nI 0), .int (nI 0), .int (nI 0)])), (c1, .inl (cI, 64, .inl (fun _ => nI 0))), (c2, .inl (cI, 64, .inl (fun _ => nI 0))), (c3, .inl (cI, 64, .inl (fun _ => nI 0))), (c4, .inl (cI, 8, .inl (fun _ => nI 0))), (c5, .inl (cI, 8, .inl (fun _ => nI 0))), (c6, .inl (cI, 64, .inl (fun _ => nI 0)))]) rfl ?_
  refine sg_aload_n h dX5_clear_10 0 rfl ?_
  refine sg_iconst h dX5_clear_11 (by decide) ?_
  refine sg_puti (q0 := 0) h dX5_clear_12 fX5_45 rfl (by decide) rfl okX5 nmX5 rfl  (by decide +kernel) rfl (Nat.le_of_ble_eq_true rfl) ?_
  refine sg_ws (ws' := [(h0, .inr (5, [.int (nI 0), .int (nI 0), .int (nI 0), .int (nI 0), .int (nI 0), .int (nI 0), .int (nI 0), .ref a1, .ref a2, .ref a3, .ref a4, .ref a11])), (a1, .inl (cI, 8, .inl (fun _ => nI 0))), (a2, .inl (cI, 8, .inl (fun _ => nI 0))), (a3, .inl (cI, 64, .inl (fun _ => nI 0))), (a4, .inr (3, [.ref b1, .ref b2, .ref b3, .ref b4, .ref b5, .ref b6])), (b1, .inl (cI, 64, .inl (fun _ => nI 0))), (b2, .inl (cI, 64, .inl (fun _ => nI 0))), (b3, .inl (cI, 8, .inl (fun _ => nI 0))), (b4, .inl (cI, 8, .inl (fun _ => nI 0))), (b5, .inl (cI, 8, .inl (fun _ => nI 0))), (b6, .inl (cI, 8, .inl (fun _ => nI 0))), (a11, .inr (6, [.ref c1, .ref c2, .ref c3, .ref c4, .ref c5, .ref c6, .int (nI 0), .int (nI 0), .int (nI 0)])), (c1, .inl (cI, 64, .inl (fun _ => nI 0))), (c2, .inl (cI, 64, .inl (fun _ => nI 0))), (c3, .inl (cI, 64, .inl (fun _ => nI 0))), (c4, .inl (cI, 8, .inl (fun _ => nI 0))), (c5, .inl (cI, 8, .inl (fun _ => nI 0))), (c6, .inl (cI, 64, .inl (fun _ => nI 0)))]) rfl ?_
  refine sg_aload_n h dX5_clear_15 0 rfl ?_
  refine sg_iconst h dX5_clear_16 (by decide) ?_
  refine sg_puti (q0 := 0) h dX5_clear_17 fX5_48 rfl (by decide) rfl okX5 nmX5 rfl  (by decide +kernel) rfl (Nat.le_of_ble_eq_true rfl) ?_
  refine sg_ws (ws' := [(h0, .inr (5, [.int (nI 0), .int (nI 0), .int (nI 0), .int (nI 2), .int (nI 0), .int (nI 0), .int (nI 0), .ref a1, .ref a2, .ref a3, .ref a4, .ref a11])), (a1, .inl (cI, 8, .inl (fun _ => nI 0))), (a2, .inl (cI, 8, .inl (fun _ => nI 0))), (a3, .inl (cI, 64, .inl (fun _ => nI 0))), (a4, .inr (3, [.ref b1, .ref b2, .ref b3, .ref b4, .ref b5, .ref b6])), (b1, .inl (cI, 64, .inl (fun _ => nI 0))), (b2, .inl (cI, 64, .inl (fun _ => nI 0))), (b3, .inl (cI, 8, .inl (fun _ => nI 0))), (b4, .inl (cI, 8, .inl (fun _ => nI 0))), (b5, .inl (cI, 8, .inl (fun _ => nI 0))), (b6, .inl (cI, 8, .inl (fun _ => nI 0))), (a11, .inr (6, [.ref c1, .ref c2, .ref c3, .ref c4, .ref c5, .ref c6, .int (nI 0), .int (nI 0), .int (nI 0)])), (c1, .inl (cI, 64, .inl (fun _ => nI 0))), (c2, .inl (cI, 64, .inl (fun _ => nI 0))), (c3, .inl (cI, 64, .inl (fun _ => nI 0))), (c4, .inl (cI, 8, .inl (fun _ => nI 0))), (c5, .inl (cI, 8, .inl (fun _ => nI 0))), (c6, .inl (cI, 64, .inl (fun _ => nI 0)))]) rfl ?_
  refine sg_aload_n h dX5_clear_20 0 rfl ?_
  refine sg_bipush h dX5_clear_21 (by decide) ?_
  refine sg_puti (q0 := 0) h dX5_clear_23 fX5_51 rfl (by decide) rfl okX5 nmX5 rfl  (by decide +kernel) rfl (Nat.le_of_ble_eq_true rfl) ?_
  refine sg_ws (ws' := [(h0, .inr (5, [.int (nI 0), .int (nI 0), .int (nI 0), .int (nI 2), .int (nI 6), .int (nI 0), .int (nI 0), .ref a1, .ref a2, .ref a3, .ref a4, .ref a11])), (a1, .inl (cI, 8, .inl (fun _ => nI 0))), (a2, .inl (cI, 8, .inl (fun _ => nI 0))), (a3, .inl (cI, 64, .inl (fun _ => nI 0))), (a4, .inr (3, [.ref b1, .ref b2, .ref b3, .ref b4, .ref b5, .ref b6])), (b1, .inl (cI, 64, .inl (fun _ => nI 0))), (b2, .inl (cI, 64, .inl (fun _ => nI 0))), (b3, .inl (cI, 8, .inl (fun _ => nI 0))), (b4, .inl (cI, 8, .inl (fun _ => nI 0))), (b5, .inl (cI, 8, .inl (fun _ => nI 0))), (b6, .inl (cI, 8, .inl (fun _ => nI 0))), (a11, .inr (6, [.ref c1, .ref c2, .ref c3, .ref c4, .ref c5, .ref c6, .int (nI 0), .int (nI 0), .int (nI 0)])), (c1, .inl (cI, 64, .inl (fun _ => nI 0))), (c2, .inl (cI, 64, .inl (fun _ => nI 0))), (c3, .inl (cI, 64, .inl (fun _ => nI 0))), (c4, .inl (cI, 8, .inl (fun _ => nI 0))), (c5, .inl (cI, 8, .inl (fun _ => nI 0))), (c6, .inl (cI, 64, .inl (fun _ => nI 0)))]) rfl ?_
  refine sg_aload_n h dX5_clear_26 0 rfl ?_
  refine sg_sipush h dX5_clear_27 (by decide) ?_
  refine sg_puti (q0 := 0) h dX5_clear_30 fX5_54 rfl (by decide) rfl okX5 nmX5 rfl  (by decide +kernel) rfl (Nat.le_of_ble_eq_true rfl) ?_
  refine sg_ws (ws' := [(h0, .inr (5, [.int (nI 0), .int (nI 0), .int (nI 0), .int (nI 2), .int (nI 6), .int (nI 700), .int (nI 0), .ref a1, .ref a2, .ref a3, .ref a4, .ref a11])), (a1, .inl (cI, 8, .inl (fun _ => nI 0))), (a2, .inl (cI, 8, .inl (fun _ => nI 0))), (a3, .inl (cI, 64, .inl (fun _ => nI 0))), (a4, .inr (3, [.ref b1, .ref b2, .ref b3, .ref b4, .ref b5, .ref b6])), (b1, .inl (cI, 64, .inl (fun _ => nI 0))), (b2, .inl (cI, 64, .inl (fun _ => nI 0))), (b3, .inl (cI, 8, .inl (fun _ => nI 0))), (b4, .inl (cI, 8, .inl (fun _ => nI 0))), (b5, .inl (cI, 8, .inl (fun _ => nI 0))), (b6, .inl (cI, 8, .inl (fun _ => nI 0))), (a11, .inr (6, [.ref c1, .ref c2, .ref c3, .ref c4, .ref c5, .ref c6, .int (nI 0), .int (nI 0), .int (nI 0)])), (c1, .inl (cI, 64, .inl (fun _ => nI 0))), (c2, .inl (cI, 64, .inl (fun _ => nI 0))), (c3, .inl (cI, 64, .inl (fun _ => nI 0))), (c4, .inl (cI, 8, .inl (fun _ => nI 0))), (c5, .inl (cI, 8, .inl (fun _ => nI 0))), (c6, .inl (cI, 64, .inl (fun _ => nI 0)))]) rfl ?_
  refine sg_aload_n h dX5_clear_33 0 rfl ?_
  refine sg_sipush h dX5_clear_34 (by decide) ?_
  refine sg_puti (q0 := 0) h dX5_clear_37 fX5_57 rfl (by decide) rfl okX5 nmX5 rfl  (by decide +kernel) rfl (Nat.le_of_ble_eq_true rfl) ?_
  refine sg_ws (ws' := [(h0, .inr (5, [.int (nI 0), .int (nI 0), .int (nI 0), .int (nI 2), .int (nI 6), .int (nI 700), .int (nI 300), .ref a1, .ref a2, .ref a3, .ref a4, .ref a11])), (a1, .inl (cI, 8, .inl (fun _ => nI 0))), (a2, .inl (cI, 8, .inl (fun _ => nI 0))), (a3, .inl (cI, 64, .inl (fun _ => nI 0))), (a4, .inr (3, [.ref b1, .ref b2, .ref b3, .ref b4, .ref b5, .ref b6])), (b1, .inl (cI, 64, .inl (fun _ => nI 0))), (b2, .inl (cI, 64, .inl (fun _ => nI 0))), (b3, .inl (cI, 8, .inl (fun _ => nI 0))), (b4, .inl (cI, 8, .inl (fun _ => nI 0))), (b5, .inl (cI, 8, .inl (fun _ => nI 0))), (b6, .inl (cI, 8, .inl (fun _ => nI 0))), (a11, .inr (6, [.ref c1, .ref c2, .ref c3, .ref c4, .ref c5, .ref c6, .int (nI 0), .int (nI 0), .int (nI 0)])), (c1, .inl (cI, 64, .inl (fun _ => nI 0))), (c2, .inl (cI, 64, .inl (fun _ => nI 0))), (c3, .inl (cI, 64, .inl (fun _ => nI 0))), (c4, .inl (cI, 8, .inl (fun _ => nI 0))), (c5, .inl (cI, 8, .inl (fun _ => nI 0))), (c6, .inl (cI, 64, .inl (fun _ => nI 0)))]) rfl ?_
  refine sg_aload_n h dX5_clear_40 0 rfl ?_
  refine sg_get (q0 := 0) (v := .ref a1) h dX5_clear_41 fX5_9 rfl (by decide) rfl rfl rfl ?_
  refine sg_iconst h dX5_clear_44 (by decide) ?_
  refine sg_cs (rest := []) (wc := [(a1, .inl (cI, 8, .inl (fun _ => nI 0)))]) (wr := [(h0, .inr (5, [.int (nI 0), .int (nI 0), .int (nI 0), .int (nI 2), .int (nI 6), .int (nI 700), .int (nI 300), .ref a1, .ref a2, .ref a3, .ref a4, .ref a11])), (a2, .inl (cI, 8, .inl (fun _ => nI 0))), (a3, .inl (cI, 64, .inl (fun _ => nI 0))), (a4, .inr (3, [.ref b1, .ref b2, .ref b3, .ref b4, .ref b5, .ref b6])), (b1, .inl (cI, 64, .inl (fun _ => nI 0))), (b2, .inl (cI, 64, .inl (fun _ => nI 0))), (b3, .inl (cI, 8, .inl (fun _ => nI 0))), (b4, .inl (cI, 8, .inl (fun _ => nI 0))), (b5, .inl (cI, 8, .inl (fun _ => nI 0))), (b6, .inl (cI, 8, .inl (fun _ => nI 0))), (a11, .inr (6, [.ref c1, .ref c2, .ref c3, .ref c4, .ref c5, .ref c6, .int (nI 0), .int (nI 0), .int (nI 0)])), (c1, .inl (cI, 64, .inl (fun _ => nI 0))), (c2, .inl (cI, 64, .inl (fun _ => nI 0))), (c3, .inl (cI, 64, .inl (fun _ => nI 0))), (c4, .inl (cI, 8, .inl (fun _ => nI 0))), (c5, .inl (cI, 8, .inl (fun _ => nI 0))), (c6, .inl (cI, 64, .inl (fun _ => nI 0)))]) h (nc_fill a1 8 (by decide)) lJ7_fill_53178 mX5_60 rfl (by decide) (by decide) rfl rfl rfl dX5_clear_45 [1] [0, 2, 3, 4, 5, 6, 7, 8, 9, 10, 11, 12, 13, 14, 15, 16, 17] rfl rfl rfl rfl (by decide) (Nat.le_of_ble_eq_true rfl) (Nat.le_of_ble_eq_true rfl) (fun u hu => ?_)
  subst hu
  refine sg_ws (ws' := [(h0, .inr (5, [.int (nI 0), .int (nI 0), .int (nI 0), .int (nI 2), .int (nI 6), .int (nI 700), .int (nI 300), .ref a1, .ref a2, .ref a3, .ref a4, .ref a11])), (a2, .inl (cI, 8, .inl (fun _ => nI 0))), (a3, .inl (cI, 64, .inl (fun _ => nI 0))), (a4, .inr (3, [.ref b1, .ref b2, .ref b3, .ref b4, .ref b5, .ref b6])), (b1, .inl (cI, 64, .inl (fun _ => nI 0))), (b2, .inl (cI, 64, .inl (fun _ => nI 0))), (b3, .inl (cI, 8, .inl (fun _ => nI 0))), (b4, .inl (cI, 8, .inl (fun _ => nI 0))), (b5, .inl (cI, 8, .inl (fun _ => nI 0))), (b6, .inl (cI, 8, .inl (fun _ => nI 0))), (a11, .inr (6, [.ref c1, .ref c2, .ref c3, .ref c4, .ref c5, .ref c6, .int (nI 0), .int (nI 0), .int (nI 0)])), (c1, .inl (cI, 64, .inl (fun _ => nI 0))), (c2, .inl (cI, 64, .inl (fun _ => nI 0))), (c3, .inl (cI, 64, .inl (fun _ => nI 0))), (c4, .inl (cI, 8, .inl (fun _ => nI 0))), (c5, .inl (cI, 8, .inl (fun _ => nI 0))), (c6, .inl (cI, 64, .inl (fun _ => nI 0))), (a1, .inl (cI, 8, .inl (fun _ => nI 0)))]) rfl ?_
  refine sg_aload_n h dX5_clear_48 0 rfl ?_
  refine sg_get (q0 := 0) (v := .ref a2) h dX5_clear_49 fX5_15 rfl (by decide) rfl rfl rfl ?_
  refine sg_iconst h dX5_clear_52 (by decide) ?_
  refine sg_cs (rest := []) (wc := [(a2, .inl (cI, 8, .inl (fun _ => nI 0)))]) (wr := [(h0, .inr (5, [.int (nI 0), .int (nI 0), .int (nI 0), .int (nI 2), .int (nI 6), .int (nI 700), .int (nI 300), .ref a1, .ref a2, .ref a3, .ref a4, .ref a11])), (a3, .inl (cI, 64, .inl (fun _ => nI 0))), (a4, .inr (3, [.ref b1, .ref b2, .ref b3, .ref b4, .ref b5, .ref b6])), (b1, .inl (cI, 64, .inl (fun _ => nI 0))), (b2, .inl (cI, 64, .inl (fun _ => nI 0))), (b3, .inl (cI, 8, .inl (fun _ => nI 0))), (b4, .inl (cI, 8, .inl (fun _ => nI 0))), (b5, .inl (cI, 8, .inl (fun _ => nI 0))), (b6, .inl (cI, 8, .inl (fun _ => nI 0))), (a11, .inr (6, [.ref c1, .ref c2, .ref c3, .ref c4, .ref c5, .ref c6, .int (nI 0), .int (nI 0), .int (nI 0)])), (c1, .inl (cI, 64, .inl (fun _ => nI 0))), (c2, .inl (cI, 64, .inl (fun _ => nI 0))), (c3, .inl (cI, 64, .inl (fun _ => nI 0))), (c4, .inl (cI, 8, .inl (fun _ => nI 0))), (c5, .inl (cI, 8, .inl (fun _ => nI 0))), (c6, .inl (cI, 64, .inl (fun _ => nI 0))), (a1, .inl (cI, 8, .inl (fun _ => nI 0)))]) h (nc_fill a2 8 (by decide)) lJ7_fill_53178 mX5_60 rfl (by decide) (by decide) rfl rfl rfl dX5_clear_53 [1] [0, 2, 3, 4, 5, 6, 7, 8, 9, 10, 11, 12, 13, 14, 15, 16, 17] rfl rfl rfl rfl (by decide) (Nat.le_of_ble_eq_true rfl) (Nat.le_of_ble_eq_true rfl) (fun u hu => ?_)
  subst hu
  refine sg_ws (ws' := [(h0, .inr (5, [.int (nI 0), .int (nI 0), .int (nI 0), .int (nI 2), .int (nI 6), .int (nI 700), .int (nI 300), .ref a1, .ref a2, .ref a3, .ref a4, .ref a11])), (a3, .inl (cI, 64, .inl (fun _ => nI 0))), (a4, .inr (3, [.ref b1, .ref b2, .ref b3, .ref b4, .ref b5, .ref b6])), (b1, .inl (cI, 64, .inl (fun _ => nI 0))), (b2, .inl (cI, 64, .inl (fun _ => nI 0))), (b3, .inl (cI, 8, .inl (fun _ => nI 0))), (b4, .inl (cI, 8, .inl (fun _ => nI 0))), (b5, .inl (cI, 8, .inl (fun _ => nI 0))), (b6, .inl (cI, 8, .inl (fun _ => nI 0))), (a11, .inr (6, [.ref c1, .ref c2, .ref c3, .ref c4, .ref c5, .ref c6, .int (nI 0), .int (nI 0), .int (nI 0)])), (c1, .inl (cI, 64, .inl (fun _ => nI 0))), (c2, .inl (cI, 64, .inl (fun _ => nI 0))), (c3, .inl (cI, 64, .inl (fun _ => nI 0))), (c4, .inl (cI, 8, .inl (fun _ => nI 0))), (c5, .inl (cI, 8, .inl (fun _ => nI 0))), (c6, .inl (cI, 64, .inl (fun _ => nI 0))), (a1, .inl (cI, 8, .inl (fun _ => nI 0))), (a2, .inl (cI, 8, .inl (fun _ => nI 0)))]) rfl ?_
  refine sg_aload_n h dX5_clear_56 0 rfl ?_
  refine sg_get (q0 := 0) (v := .ref a3) h dX5_clear_57 fX5_18 rfl (by decide) rfl rfl rfl ?_
  refine sg_iconst h dX5_clear_60 (by decide) ?_
  refine sg_cs (rest := []) (wc := [(a3, .inl (cI, 64, .inl (fun _ => nI 0)))]) (wr := [(h0, .inr (5, [.int (nI 0), .int (nI 0), .int (nI 0), .int (nI 2), .int (nI 6), .int (nI 700), .int (nI 300), .ref a1, .ref a2, .ref a3, .ref a4, .ref a11])), (a4, .inr (3, [.ref b1, .ref b2, .ref b3, .ref b4, .ref b5, .ref b6])), (b1, .inl (cI, 64, .inl (fun _ => nI 0))), (b2, .inl (cI, 64, .inl (fun _ => nI 0))), (b3, .inl (cI, 8, .inl (fun _ => nI 0))), (b4, .inl (cI, 8, .inl (fun _ => nI 0))), (b5, .inl (cI, 8, .inl (fun _ => nI 0))), (b6, .inl (cI, 8, .inl (fun _ => nI 0))), (a11, .inr (6, [.ref c1, .ref c2, .ref c3, .ref c4, .ref c5, .ref c6, .int (nI 0), .int (nI 0), .int (nI 0)])), (c1, .inl (cI, 64, .inl (fun _ => nI 0))), (c2, .inl (cI, 64, .inl (fun _ => nI 0))), (c3, .inl (cI, 64, .inl (fun _ => nI 0))), (c4, .inl (cI, 8, .inl (fun _ => nI 0))), (c5, .inl (cI, 8, .inl (fun _ => nI 0))), (c6, .inl (cI, 64, .inl (fun _ => nI 0))), (a1, .inl (cI, 8, .inl (fun _ => nI 0))), (a2, .inl (cI, 8, .inl (fun _ => nI 0)))]) h (nc_fill a3 64 (by decide)) lJ7_fill_53178 mX5_60 rfl (by decide) (by decide) rfl rfl rfl dX5_clear_61 [1] [0, 2, 3, 4, 5, 6, 7, 8, 9, 10, 11, 12, 13, 14, 15, 16, 17] rfl rfl rfl rfl (by decide) (Nat.le_of_ble_eq_true rfl) (Nat.le_of_ble_eq_true rfl) (fun u hu => ?_)
  subst hu
  refine sg_ws (ws' := [(h0, .inr (5, [.int (nI 0), .int (nI 0), .int (nI 0), .int (nI 2), .int (nI 6), .int (nI 700), .int (nI 300), .ref a1, .ref a2, .ref a3, .ref a4, .ref a11])), (a4, .inr (3, [.ref b1, .ref b2, .ref b3, .ref b4, .ref b5, .ref b6])), (b1, .inl (cI, 64, .inl (fun _ => nI 0))), (b2, .inl (cI, 64, .inl (fun _ => nI 0))), (b3, .inl (cI, 8, .inl (fun _ => nI 0))), (b4, .inl (cI, 8, .inl (fun _ => nI 0))), (b5, .inl (cI, 8, .inl (fun _ => nI 0))), (b6, .inl (cI, 8, .inl (fun _ => nI 0))), (a11, .inr (6, [.ref c1, .ref c2, .ref c3, .ref c4, .ref c5, .ref c6, .int (nI 0), .int (nI 0), .int (nI 0)])), (c1, .inl (cI, 64, .inl (fun _ => nI 0))), (c2, .inl (cI, 64, .inl (fun _ => nI 0))), (c3, .inl (cI, 64, .inl (fun _ => nI 0))), (c4, .inl (cI, 8, .inl (fun _ => nI 0))), (c5, .inl (cI, 8, .inl (fun _ => nI 0))), (c6, .inl (cI, 64, .inl (fun _ => nI 0))), (a1, .inl (cI, 8, .inl (fun _ => nI 0))), (a2, .inl (cI, 8, .inl (fun _ => nI 0))), (a3, .inl (cI, 64, .inl (fun _ => nI 0)))]) rfl ?_
  refine sg_aload_n h dX5_clear_64 0 rfl ?_
  refine sg_get (q0 := 0) (v := .ref a4) h dX5_clear_65 fX5_24 rfl (by decide) rfl rfl rfl ?_
  refine sg_cv (q0 := 1) (rest := []) (wc := [(a4, .inr (3, [.ref b1, .ref b2, .ref b3, .ref b4, .ref b5, .ref b6])), (b1, .inl (cI, 64, .inl (fun _ => nI 0))), (b2, .inl (cI, 64, .inl (fun _ => nI 0))), (b3, .inl (cI, 8, .inl (fun _ => nI 0))), (b4, .inl (cI, 8, .inl (fun _ => nI 0))), (b5, .inl (cI, 8, .inl (fun _ => nI 0))), (b6, .inl (cI, 8, .inl (fun _ => nI 0)))]) (wr := [(h0, .inr (5, [.int (nI 0), .int (nI 0), .int (nI 0), .int (nI 2), .int (nI 6), .int (nI 700), .int (nI 300), .ref a1, .ref a2, .ref a3, .ref a4, .ref a11])), (a11, .inr (6, [.ref c1, .ref c2, .ref c3, .ref c4, .ref c5, .ref c6, .int (nI 0), .int (nI 0), .int (nI 0)])), (c1, .inl (cI, 64, .inl (fun _ => nI 0))), (c2, .inl (cI, 64, .inl (fun _ => nI 0))), (c3, .inl (cI, 64, .inl (fun _ => nI 0))), (c4, .inl (cI, 8, .inl (fun _ => nI 0))), (c5, .inl (cI, 8, .inl (fun _ => nI 0))), (c6, .inl (cI, 64, .inl (fun _ => nI 0))), (a1, .inl (cI, 8, .inl (fun _ => nI 0))), (a2, .inl (cI, 8, .inl (fun _ => nI 0))), (a3, .inl (cI, 64, .inl (fun _ => nI 0)))]) h (nc_X3_clear a4 b1 b2 b3 b4 b5 b6) lX3_clear mX5_66 rfl (by decide) (by decide) rfl rfl rfl rfl rfl rfl dX5_clear_68 [1, 2, 3, 4, 5, 6, 7] [0, 8, 9, 10, 11, 12, 13, 14, 15, 16, 17] rfl rfl rfl rfl (by decide) (Nat.le_of_ble_eq_true rfl) (Nat.le_of_ble_eq_true rfl) (fun u hu => ?_)
  subst hu
  refine sg_ws (ws' := [(h0, .inr (5, [.int (nI 0), .int (nI 0), .int (nI 0), .int (nI 2), .int (nI 6), .int (nI 700), .int (nI 300), .ref a1, .ref a2, .ref a3, .ref a4, .ref a11])), (a11, .inr (6, [.ref c1, .ref c2, .ref c3, .ref c4, .ref c5, .ref c6, .int (nI 0), .int (nI 0), .int (nI 0)])), (c1, .inl (cI, 64, .inl (fun _ => nI 0))), (c2, .inl (cI, 64, .inl (fun _ => nI 0))), (c3, .inl (cI, 64, .inl (fun _ => nI 0))), (c4, .inl (cI, 8, .inl (fun _ => nI 0))), (c5, .inl (cI, 8, .inl (fun _ => nI 0))), (c6, .inl (cI, 64, .inl (fun _ => nI 0))), (a1, .inl (cI, 8, .inl (fun _ => nI 0))), (a2, .inl (cI, 8, .inl (fun _ => nI 0))), (a3, .inl (cI, 64, .inl (fun _ => nI 0))), (a4, .inr (3, [.ref b1, .ref b2, .ref b3, .ref b4, .ref b5, .ref b6])), (b1, .inl (cI, 64, .inl (fun _ => nI 0))), (b2, .inl (cI, 64, .inl (fun _ => nI 0))), (b3, .inl (cI, 8, .inl (fun _ => nI 0))), (b4, .inl (cI, 8, .inl (fun _ => nI 0))), (b5, .inl (cI, 8, .inl (fun _ => nI 0))), (b6, .inl (cI, 8, .inl (fun _ => nI 0)))]) rfl ?_
  refine sg_aload_n h dX5_clear_71 0 rfl ?_
  refine sg_get (q0 := 0) (v := .ref a11) h dX5_clear_72 fX5_31 rfl (by decide) rfl rfl rfl ?_
  refine sg_cv (q0 := 1) (rest := []) (wc := [(a11, .inr (6, [.ref c1, .ref c2, .ref c3, .ref c4, .ref c5, .ref c6, .int (nI 0), .int (nI 0), .int (nI 0)])), (c1, .inl (cI, 64, .inl (fun _ => nI 0))), (c2, .inl (cI, 64, .inl (fun _ => nI 0))), (c3, .inl (cI, 64, .inl (fun _ => nI 0))), (c4, .inl (cI, 8, .inl (fun _ => nI 0))), (c5, .inl (cI, 8, .inl (fun _ => nI 0))), (c6, .inl (cI, 64, .inl (fun _ => nI 0)))]) (wr := [(h0, .inr (5, [.int (nI 0), .int (nI 0), .int (nI 0), .int (nI 2), .int (nI 6), .int (nI 700), .int (nI 300), .ref a1, .ref a2, .ref a3, .ref a4, .ref a11])), (a1, .inl (cI, 8, .inl (fun _ => nI 0))), (a2, .inl (cI, 8, .inl (fun _ => nI 0))), (a3, .inl (cI, 64, .inl (fun _ => nI 0))), (a4, .inr (3, [.ref b1, .ref b2, .ref b3, .ref b4, .ref b5, .ref b6])), (b1, .inl (cI, 64, .inl (fun _ => nI 0))), (b2, .inl (cI, 64, .inl (fun _ => nI 0))), (b3, .inl (cI, 8, .inl (fun _ => nI 0))), (b4, .inl (cI, 8, .inl (fun _ => nI 0))), (b5, .inl (cI, 8, .inl (fun _ => nI 0))), (b6, .inl (cI, 8, .inl (fun _ => nI 0)))]) h (nc_X6_clear a11 c1 c2 c3 c4 c5 c6) lX6_clear mX5_67 rfl (by decide) (by decide) rfl rfl rfl rfl rfl rfl dX5_clear_75 [1, 2, 3, 4, 5, 6, 7] [0, 8, 9, 10, 11, 12, 13, 14, 15, 16, 17] rfl rfl rfl rfl (by decide) (Nat.le_of_ble_eq_true rfl) (Nat.le_of_ble_eq_true rfl) (fun u hu => ?_)
  subst hu
  refine sg_ws (ws' := [(h0, .inr (5, [.int (nI 0), .int (nI 0), .int (nI 0), .int (nI 2), .int (nI 6), .int (nI 700), .int (nI 300), .ref a1, .ref a2, .ref a3, .ref a4, .ref a11])), (a1, .inl (cI, 8, .inl (fun _ => nI 0))), (a2, .inl (cI, 8, .inl (fun _ => nI 0))), (a3, .inl (cI, 64, .inl (fun _ => nI 0))), (a4, .inr (3, [.ref b1, .ref b2, .ref b3, .ref b4, .ref b5, .ref b6])), (b1, .inl (cI, 64, .inl (fun _ => nI 0))), (b2, .inl (cI, 64, .inl (fun _ => nI 0))), (b3, .inl (cI, 8, .inl (fun _ => nI 0))), (b4, .inl (cI, 8, .inl (fun _ => nI 0))), (b5, .inl (cI, 8, .inl (fun _ => nI 0))), (b6, .inl (cI, 8, .inl (fun _ => nI 0))), (a11, .inr (6, [.ref c1, .ref c2, .ref c3, .ref c4, .ref c5, .ref c6, .int (nI 0), .int (nI 0), .int (nI 0)])), (c1, .inl (cI, 64, .inl (fun _ => nI 0))), (c2, .inl (cI, 64, .inl (fun _ => nI 0))), (c3, .inl (cI, 64, .inl (fun _ => nI 0))), (c4, .inl (cI, 8, .inl (fun _ => nI 0))), (c5, .inl (cI, 8, .inl (fun _ => nI 0))), (c6, .inl (cI, 64, .inl (fun _ => nI 0)))]) rfl ?_
  exact sg_vret h hQ dX5_clear_78 rfl

set_option maxRecDepth 100000 in
set_option maxHeartbeats 4000000 in
theorem nc_X5 {l : Launch} {D : va_G} {cI cB cM : ClassId} (h0 : Nat) : NC l D (tyL cI cB cM) qX5_init 3 17 527 [.ref h0] [(h0, .inr (5, [.int (nI 0), .int (nI 0), .int (nI 0), .int (nI 0), .int (nI 0), .int (nI 0), .int (nI 0), .null, .null, .null, .null, .null]))] (fun u => ∃ a1 a2 a3 a4 b1 b2 b3 b4 b5 b6 a11 c1 c2 c3 c4 c5 c6 : Nat, u = [(h0, .inr (5, [.int (nI 0), .int (nI 0), .int (nI 0), .int (nI 2), .int (nI 6), .int (nI 700), .int (nI 300), .ref a1, .ref a2, .ref a3, .ref a4, .ref a11])), (a1, .inl (cI, 8, .inl (fun _ => nI 0))), (a2, .inl (cI, 8, .inl (fun _ => nI 0))), (a3, .inl (cI, 64, .inl (fun _ => nI 0))), (a4, .inr (3, [.ref b1, .ref b2, .ref b3, .ref b4, .ref b5, .ref b6])), (b1, .inl (cI, 64, .inl (fun _ => nI 0))), (b2, .inl (cI, 64, .inl (fun _ => nI 0))), (b3, .inl (cI, 8, .inl (fun _ => nI 0))), (b4, .inl (cI, 8, .inl (fun _ => nI 0))), (b5, .inl (cI, 8, .inl (fun _ => nI 0))), (b6, .inl (cI, 8, .inl (fun _ => nI 0))), (a11, .inr (6, [.ref c1, .ref c2, .ref c3, .ref c4, .ref c5, .ref c6, .int (nI 0), .int (nI 0), .int (nI 0)])), (c1, .inl (cI, 64, .inl (fun _ => nI 0))), (c2, .inl (cI, 64, .inl (fun _ => nI 0))), (c3, .inl (cI, 64, .inl (fun _ => nI 0))), (c4, .inl (cI, 8, .inl (fun _ => nI 0))), (c5, .inl (cI, 8, .inl (fun _ => nI 0))), (c6, .inl (cI, 64, .inl (fun _ => nI 0)))]) := by
  refine NC.of rfl (by decide +kernel) (Nat.le_of_ble_eq_true rfl) (fun X A hl h hQ hnm => ?_)
  subst hl
  have h : FxS X D (tyL cI cB cM) cX5_init 1 RX5 3 17 527 := h
  have hQ : QxS X D (tyL cI cB cM) A (fun u => ∃ a1 a2 a3 a4 b1 b2 b3 b4 b5 b6 a11 c1 c2 c3 c4 c5 c6 : Nat, u = [(h0, .inr (5, [.int (nI 0), .int (nI 0), .int (nI 0), .int (nI 2), .int (nI 6), .int (nI 700), .int (nI 300), .ref a1, .ref a2, .ref a3, .ref a4, .ref a11])), (a1, .inl (cI, 8, .inl (fun _ => nI 0))), (a2, .inl (cI, 8, .inl (fun _ => nI 0))), (a3, .inl (cI, 64, .inl (fun _ => nI 0))), (a4, .inr (3, [.ref b1, .ref b2, .ref b3, .ref b4, .ref b5, .ref b6])), (b1, .inl (cI, 64, .inl (fun _ => nI 0))), (b2, .inl (cI, 64, .inl (fun _ => nI 0))), (b3, .inl (cI, 8, .inl (fun _ => nI 0))), (b4, .inl (cI, 8, .inl (fun _ => nI 0))), (b5, .inl (cI, 8, .inl (fun _ => nI 0))), (b6, .inl (cI, 8, .inl (fun _ => nI 0))), (a11, .inr (6, [.ref c1, .ref c2, .ref c3, .ref c4, .ref c5, .ref c6, .int (nI 0), .int (nI 0), .int (nI 0)])), (c1, .inl (cI, 64, .inl (fun _ => nI 0))), (c2, .inl (cI, 64, .inl (fun _ => nI 0))), (c3, .inl (cI, 64, .inl (fun _ => nI 0))), (c4, .inl (cI, 8, .inl (fun _ => nI 0))), (c5, .inl (cI, 8, .inl (fun _ => nI 0))), (c6, .inl (cI, 64, .inl (fun _ => nI 0)))]) 17 527 := hQ
  have hnm : X.2.2.2.2.2.2.2.2.1.name = "<init>" := hnm
  show SG X D A 1 0 [(0, .ref h0)] [] [(h0, .inr (5, [.int (nI 0), .int (nI 0), .int (nI 0), .int (nI 0), .int (nI 0), .int (nI 0), .int (nI 0), .null, .null, .null, .null, .null]))] 0 0
  refine sg_aload_n h dX5_init_0 0 rfl ?_
  refine sg_objInit h dX5_init_1 mX5_3 wd_oi wd_oc (by decide) rfl ?_
  refine sg_aload_n h dX5_init_4 0 rfl ?_
  refine sg_bipush h dX5_init_5 (by decide) ?_
  refine sg_newa (ty := .int) (t0 := 0) (cA := cI) h dX5_init_7 rfl wd_int rfl rfl (Or.inl rfl) (by decide) (Nat.le_of_ble_eq_true rfl) (Nat.le_of_ble_eq_true rfl) (fun q7 => ?_)
  refine sg_ws (ws' := [(h0, .inr (5, [.int (nI 0), .int (nI 0), .int (nI 0), .int (nI 0), .int (nI 0), .int (nI 0), .int (nI 0), .null, .null, .null, .null, .null])), (q7, .inl (cI, 8, .inl (fun _ => nI 0)))]) rfl ?_
  refine sg_putF (q0 := 0) h dX5_init_9 fX5_9 rfl (by decide) rfl okX5 nmX5 rfl  hnm rfl (okX5 7 (by decide)) rfl rfl rfl (Nat.le_of_ble_eq_true rfl) ?_
  refine sg_ws (ws' := [(h0, .inr (5, [.int (nI 0), .int (nI 0), .int (nI 0), .int (nI 0), .int (nI 0), .int (nI 0), .int (nI 0), .ref q7, .null, .null, .null, .null])), (q7, .inl (cI, 8, .inl (fun _ => nI 0)))]) rfl ?_
  refine sg_aload_n h dX5_init_12 0 rfl ?_
  refine sg_bipush h dX5_init_13 (by decide) ?_
  refine sg_newa (ty := .int) (t0 := 0) (cA := cI) h dX5_init_15 rfl wd_int rfl rfl (Or.inl rfl) (by decide) (Nat.le_of_ble_eq_true rfl) (Nat.le_of_ble_eq_true rfl) (fun q15 => ?_)
  refine sg_ws (ws' := [(h0, .inr (5, [.int (nI 0), .int (nI 0), .int (nI 0), .int (nI 0), .int (nI 0), .int (nI 0), .int (nI 0), .ref q7, .null, .null, .null, .null])), (q7, .inl (cI, 8, .inl (fun _ => nI 0))), (q15, .inl (cI, 8, .inl (fun _ => nI 0)))]) rfl ?_
  refine sg_putF (q0 := 0) h dX5_init_17 fX5_15 rfl (by decide) rfl okX5 nmX5 rfl  hnm rfl (okX5 8 (by decide)) rfl rfl rfl (Nat.le_of_ble_eq_true rfl) ?_
  refine sg_ws (ws' := [(h0, .inr (5, [.int (nI 0), .int (nI 0), .int (nI 0), .int (nI 0), .int (nI 0), .int (nI 0), .int (nI 0), .ref q7, .ref q15, .null, .null, .null])), (q7, .inl (cI, 8, .inl (fun _ => nI 0))), (q15, .inl (cI, 8, .inl (fun _ => nI 0)))]) rfl ?_
  refine sg_aload_n h dX5_init_20 0 rfl ?_
  refine sg_bipush h dX5_init_21 (by decide) ?_
  refine sg_newa (ty := .int) (t0 := 0) (cA := cI) h dX5_init_23 rfl wd_int rfl rfl (Or.inl rfl) (by decide) (Nat.le_of_ble_eq_true rfl) (Nat.le_of_ble_eq_true rfl) (fun q23 => ?_)
  refine sg_ws (ws' := [(h0, .inr (5, [.int (nI 0), .int (nI 0), .int (nI 0), .int (nI 0), .int (nI 0), .int (nI 0), .int (nI 0), .ref q7, .ref q15, .null, .null, .null])), (q7, .inl (cI, 8, .inl (fun _ => nI 0))), (q15, .inl (cI, 8, .inl (fun _ => nI 0))), (q23, .inl (cI, 64, .inl (fun _ => nI 0)))]) rfl ?_
  refine sg_putF (q0 := 0) h dX5_init_25 fX5_18 rfl (by decide) rfl okX5 nmX5 rfl  hnm rfl (okX5 9 (by decide)) rfl rfl rfl (Nat.le_of_ble_eq_true rfl) ?_
  refine sg_ws (ws' := [(h0, .inr (5, [.int (nI 0), .int (nI 0), .int (nI 0), .int (nI 0), .int (nI 0), .int (nI 0), .int (nI 0), .ref q7, .ref q15, .ref q23, .null, .null])), (q7, .inl (cI, 8, .inl (fun _ => nI 0))), (q15, .inl (cI, 8, .inl (fun _ => nI 0))), (q23, .inl (cI, 64, .inl (fun _ => nI 0)))]) rfl ?_
  refine sg_aload_n h dX5_init_28 0 rfl ?_
  refine sg_new (ci := 3) (fs := [.null, .null, .null, .null, .null, .null]) (C := RX3) (T := TX3) (NN := 6) h dX5_init_29 tyX3 okX3 inX3 nX5_21 rfl (fun j hj => by rcases (show j = 0 ∨ j = 1 ∨ j = 2 ∨ j = 3 ∨ j = 4 ∨ j = 5 by omega) with rfl | rfl | rfl | rfl | rfl | rfl <;> rfl) (Nat.le_of_ble_eq_true rfl) (Nat.le_of_ble_eq_true rfl) (fun q29 => ?_)
  refine sg_ws (ws' := [(h0, .inr (5, [.int (nI 0), .int (nI 0), .int (nI 0), .int (nI 0), .int (nI 0), .int (nI 0), .int (nI 0), .ref q7, .ref q15, .ref q23, .null, .null])), (q7, .inl (cI, 8, .inl (fun _ => nI 0))), (q15, .inl (cI, 8, .inl (fun _ => nI 0))), (q23, .inl (cI, 64, .inl (fun _ => nI 0))), (q29, .inr (3, [.null, .null, .null, .null, .null, .null]))]) rfl ?_
  refine sg_dup h dX5_init_32 rfl ?_
  refine sg_ci (rest := [.ref q29, .ref h0]) (wc := [(q29, .inr (3, [.null, .null, .null, .null, .null, .null]))]) (wr := [(h0, .inr (5, [.int (nI 0), .int (nI 0), .int (nI 0), .int (nI 0), .int (nI 0), .int (nI 0), .int (nI 0), .ref q7, .ref q15, .ref q23, .null, .null])), (q7, .inl (cI, 8, .inl (fun _ => nI 0))), (q15, .inl (cI, 8, .inl (fun _ => nI 0))), (q23, .inl (cI, 64, .inl (fun _ => nI 0)))]) h (nc_X3 q29) lX3_init mX5_23 rfl (by decide) (by decide) rfl rfl rfl dX5_init_33 [4] [0, 1, 2, 3] rfl rfl rfl rfl (by decide) (Nat.le_of_ble_eq_true rfl) (Nat.le_of_ble_eq_true rfl) (fun u hu => ?_)
  obtain ⟨q1_33, q2_33, q3_33, q4_33, q5_33, q6_33, rfl⟩ := hu
  refine sg_ws (ws' := [(h0, .inr (5, [.int (nI 0), .int (nI 0), .int (nI 0), .int (nI 0), .int (nI 0), .int (nI 0), .int (nI 0), .ref q7, .ref q15, .ref q23, .null, .null])), (q7, .inl (cI, 8, .inl (fun _ => nI 0))), (q15, .inl (cI, 8, .inl (fun _ => nI 0))), (q23, .inl (cI, 64, .inl (fun _ => nI 0))), (q29, .inr (3, [.ref q1_33, .ref q2_33, .ref q3_33, .ref q4_33, .ref q5_33, .ref q6_33])), (q1_33, .inl (cI, 64, .inl (fun _ => nI 0))), (q2_33, .inl (cI, 64, .inl (fun _ => nI 0))), (q3_33, .inl (cI, 8, .inl (fun _ => nI 0))), (q4_33, .inl (cI, 8, .inl (fun _ => nI 0))), (q5_33, .inl (cI, 8, .inl (fun _ => nI 0))), (q6_33, .inl (cI, 8, .inl (fun _ => nI 0)))]) rfl ?_
  refine sg_putF (q0 := 0) h dX5_init_36 fX5_24 rfl (by decide) rfl okX5 nmX5 rfl  hnm rfl (okX5 10 (by decide)) rfl rfl rfl (Nat.le_of_ble_eq_true rfl) ?_
  refine sg_ws (ws' := [(h0, .inr (5, [.int (nI 0), .int (nI 0), .int (nI 0), .int (nI 0), .int (nI 0), .int (nI 0), .int (nI 0), .ref q7, .ref q15, .ref q23, .ref q29, .null])), (q7, .inl (cI, 8, .inl (fun _ => nI 0))), (q15, .inl (cI, 8, .inl (fun _ => nI 0))), (q23, .inl (cI, 64, .inl (fun _ => nI 0))), (q29, .inr (3, [.ref q1_33, .ref q2_33, .ref q3_33, .ref q4_33, .ref q5_33, .ref q6_33])), (q1_33, .inl (cI, 64, .inl (fun _ => nI 0))), (q2_33, .inl (cI, 64, .inl (fun _ => nI 0))), (q3_33, .inl (cI, 8, .inl (fun _ => nI 0))), (q4_33, .inl (cI, 8, .inl (fun _ => nI 0))), (q5_33, .inl (cI, 8, .inl (fun _ => nI 0))), (q6_33, .inl (cI, 8, .inl (fun _ => nI 0)))]) rfl ?_
  refine sg_aload_n h dX5_init_39 0 rfl ?_
  refine sg_new (ci := 6) (fs := [.null, .null, .null, .null, .null, .null, .int (nI 0), .int (nI 0), .int (nI 0)]) (C := RX6) (T := TX6) (NN := 9) h dX5_init_40 tyX6 okX6 inX6 nX5_28 rfl (fun j hj => by rcases (show j = 0 ∨ j = 1 ∨ j = 2 ∨ j = 3 ∨ j = 4 ∨ j = 5 ∨ j = 6 ∨ j = 7 ∨ j = 8 by omega) with rfl | rfl | rfl | rfl | rfl | rfl | rfl | rfl | rfl <;> rfl) (Nat.le_of_ble_eq_true rfl) (Nat.le_of_ble_eq_true rfl) (fun q40 => ?_)
  refine sg_ws (ws' := [(h0, .inr (5, [.int (nI 0), .int (nI 0), .int (nI 0), .int (nI 0), .int (nI 0), .int (nI 0), .int (nI 0), .ref q7, .ref q15, .ref q23, .ref q29, .null])), (q7, .inl (cI, 8, .inl (fun _ => nI 0))), (q15, .inl (cI, 8, .inl (fun _ => nI 0))), (q23, .inl (cI, 64, .inl (fun _ => nI 0))), (q29, .inr (3, [.ref q1_33, .ref q2_33, .ref q3_33, .ref q4_33, .ref q5_33, .ref q6_33])), (q1_33, .inl (cI, 64, .inl (fun _ => nI 0))), (q2_33, .inl (cI, 64, .inl (fun _ => nI 0))), (q3_33, .inl (cI, 8, .inl (fun _ => nI 0))), (q4_33, .inl (cI, 8, .inl (fun _ => nI 0))), (q5_33, .inl (cI, 8, .inl (fun _ => nI 0))), (q6_33, .inl (cI, 8, .inl (fun _ => nI 0))), (q40, .inr (6, [.null, .null, .null, .null, .null, .null, .int (nI 0), .int (nI 0), .int (nI 0)]))]) rfl ?_
  refine sg_dup h dX5_init_43 rfl ?_
  refine sg_ci (rest := [.ref q40, .ref h0]) (wc := [(q40, .inr (6, [.null, .null, .null, .null, .null, .null, .int (nI 0), .int (nI 0), .int (nI 0)]))]) (wr := [(h0, .inr (5, [.int (nI 0), .int (nI 0), .int (nI 0), .int (nI 0), .int (nI 0), .int (nI 0), .int (nI 0), .ref q7, .ref q15, .ref q23, .ref q29, .null])), (q7, .inl (cI, 8, .inl (fun _ => nI 0))), (q15, .inl (cI, 8, .inl (fun _ => nI 0))), (q23, .inl (cI, 64, .inl (fun _ => nI 0))), (q29, .inr (3, [.ref q1_33, .ref q2_33, .ref q3_33, .ref q4_33, .ref q5_33, .ref q6_33])), (q1_33, .inl (cI, 64, .inl (fun _ => nI 0))), (q2_33, .inl (cI, 64, .inl (fun _ => nI 0))), (q3_33, .inl (cI, 8, .inl (fun _ => nI 0))), (q4_33, .inl (cI, 8, .inl (fun _ => nI 0))), (q5_33, .inl (cI, 8, .inl (fun _ => nI 0))), (q6_33, .inl (cI, 8, .inl (fun _ => nI 0)))]) h (nc_X6 q40) lX6_init mX5_30 rfl (by decide) (by decide) rfl rfl rfl dX5_init_44 [11] [0, 1, 2, 3, 4, 5, 6, 7, 8, 9, 10] rfl rfl rfl rfl (by decide) (Nat.le_of_ble_eq_true rfl) (Nat.le_of_ble_eq_true rfl) (fun u hu => ?_)
  obtain ⟨q1_44, q2_44, q3_44, q4_44, q5_44, q6_44, rfl⟩ := hu
  refine sg_ws (ws' := [(h0, .inr (5, [.int (nI 0), .int (nI 0), .int (nI 0), .int (nI 0), .int (nI 0), .int (nI 0), .int (nI 0), .ref q7, .ref q15, .ref q23, .ref q29, .null])), (q7, .inl (cI, 8, .inl (fun _ => nI 0))), (q15, .inl (cI, 8, .inl (fun _ => nI 0))), (q23, .inl (cI, 64, .inl (fun _ => nI 0))), (q29, .inr (3, [.ref q1_33, .ref q2_33, .ref q3_33, .ref q4_33, .ref q5_33, .ref q6_33])), (q1_33, .inl (cI, 64, .inl (fun _ => nI 0))), (q2_33, .inl (cI, 64, .inl (fun _ => nI 0))), (q3_33, .inl (cI, 8, .inl (fun _ => nI 0))), (q4_33, .inl (cI, 8, .inl (fun _ => nI 0))), (q5_33, .inl (cI, 8, .inl (fun _ => nI 0))), (q6_33, .inl (cI, 8, .inl (fun _ => nI 0))), (q40, .inr (6, [.ref q1_44, .ref q2_44, .ref q3_44, .ref q4_44, .ref q5_44, .ref q6_44, .int (nI 0), .int (nI 0), .int (nI 0)])), (q1_44, .inl (cI, 64, .inl (fun _ => nI 0))), (q2_44, .inl (cI, 64, .inl (fun _ => nI 0))), (q3_44, .inl (cI, 64, .inl (fun _ => nI 0))), (q4_44, .inl (cI, 8, .inl (fun _ => nI 0))), (q5_44, .inl (cI, 8, .inl (fun _ => nI 0))), (q6_44, .inl (cI, 64, .inl (fun _ => nI 0)))]) rfl ?_
  refine sg_putF (q0 := 0) h dX5_init_47 fX5_31 rfl (by decide) rfl okX5 nmX5 rfl  hnm rfl (okX5 11 (by decide)) rfl rfl rfl (Nat.le_of_ble_eq_true rfl) ?_
  refine sg_ws (ws' := [(h0, .inr (5, [.int (nI 0), .int (nI 0), .int (nI 0), .int (nI 0), .int (nI 0), .int (nI 0), .int (nI 0), .ref q7, .ref q15, .ref q23, .ref q29, .ref q40])), (q7, .inl (cI, 8, .inl (fun _ => nI 0))), (q15, .inl (cI, 8, .inl (fun _ => nI 0))), (q23, .inl (cI, 64, .inl (fun _ => nI 0))), (q29, .inr (3, [.ref q1_33, .ref q2_33, .ref q3_33, .ref q4_33, .ref q5_33, .ref q6_33])), (q1_33, .inl (cI, 64, .inl (fun _ => nI 0))), (q2_33, .inl (cI, 64, .inl (fun _ => nI 0))), (q3_33, .inl (cI, 8, .inl (fun _ => nI 0))), (q4_33, .inl (cI, 8, .inl (fun _ => nI 0))), (q5_33, .inl (cI, 8, .inl (fun _ => nI 0))), (q6_33, .inl (cI, 8, .inl (fun _ => nI 0))), (q40, .inr (6, [.ref q1_44, .ref q2_44, .ref q3_44, .ref q4_44, .ref q5_44, .ref q6_44, .int (nI 0), .int (nI 0), .int (nI 0)])), (q1_44, .inl (cI, 64, .inl (fun _ => nI 0))), (q2_44, .inl (cI, 64, .inl (fun _ => nI 0))), (q3_44, .inl (cI, 64, .inl (fun _ => nI 0))), (q4_44, .inl (cI, 8, .inl (fun _ => nI 0))), (q5_44, .inl (cI, 8, .inl (fun _ => nI 0))), (q6_44, .inl (cI, 64, .inl (fun _ => nI 0)))]) rfl ?_
  refine sg_aload_n h dX5_init_50 0 rfl ?_
  refine sg_cv (q0 := 0) (rest := []) (wc := [(h0, .inr (5, [.int (nI 0), .int (nI 0), .int (nI 0), .int (nI 0), .int (nI 0), .int (nI 0), .int (nI 0), .ref q7, .ref q15, .ref q23, .ref q29, .ref q40])), (q7, .inl (cI, 8, .inl (fun _ => nI 0))), (q15, .inl (cI, 8, .inl (fun _ => nI 0))), (q23, .inl (cI, 64, .inl (fun _ => nI 0))), (q29, .inr (3, [.ref q1_33, .ref q2_33, .ref q3_33, .ref q4_33, .ref q5_33, .ref q6_33])), (q1_33, .inl (cI, 64, .inl (fun _ => nI 0))), (q2_33, .inl (cI, 64, .inl (fun _ => nI 0))), (q3_33, .inl (cI, 8, .inl (fun _ => nI 0))), (q4_33, .inl (cI, 8, .inl (fun _ => nI 0))), (q5_33, .inl (cI, 8, .inl (fun _ => nI 0))), (q6_33, .inl (cI, 8, .inl (fun _ => nI 0))), (q40, .inr (6, [.ref q1_44, .ref q2_44, .ref q3_44, .ref q4_44, .ref q5_44, .ref q6_44, .int (nI 0), .int (nI 0), .int (nI 0)])), (q1_44, .inl (cI, 64, .inl (fun _ => nI 0))), (q2_44, .inl (cI, 64, .inl (fun _ => nI 0))), (q3_44, .inl (cI, 64, .inl (fun _ => nI 0))), (q4_44, .inl (cI, 8, .inl (fun _ => nI 0))), (q5_44, .inl (cI, 8, .inl (fun _ => nI 0))), (q6_44, .inl (cI, 64, .inl (fun _ => nI 0)))]) (wr := []) h (nc_X5_clear h0 q7 q15 q23 q29 q1_33 q2_33 q3_33 q4_33 q5_33 q6_33 q40 q1_44 q2_44 q3_44 q4_44 q5_44 q6_44) lX5_clear mX5_35 rfl (by decide) (by decide) rfl rfl rfl rfl rfl rfl dX5_init_51 [0, 1, 2, 3, 4, 5, 6, 7, 8, 9, 10, 11, 12, 13, 14, 15, 16, 17] [] rfl rfl rfl rfl (by decide) (Nat.le_of_ble_eq_true rfl) (Nat.le_of_ble_eq_true rfl) (fun u hu => ?_)
  subst hu
  refine sg_ws (ws' := [(h0, .inr (5, [.int (nI 0), .int (nI 0), .int (nI 0), .int (nI 2), .int (nI 6), .int (nI 700), .int (nI 300), .ref q7, .ref q15, .ref q23, .ref q29, .ref q40])), (q7, .inl (cI, 8, .inl (fun _ => nI 0))), (q15, .inl (cI, 8, .inl (fun _ => nI 0))), (q23, .inl (cI, 64, .inl (fun _ => nI 0))), (q29, .inr (3, [.ref q1_33, .ref q2_33, .ref q3_33, .ref q4_33, .ref q5_33, .ref q6_33])), (q1_33, .inl (cI, 64, .inl (fun _ => nI 0))), (q2_33, .inl (cI, 64, .inl (fun _ => nI 0))), (q3_33, .inl (cI, 8, .inl (fun _ => nI 0))), (q4_33, .inl (cI, 8, .inl (fun _ => nI 0))), (q5_33, .inl (cI, 8, .inl (fun _ => nI 0))), (q6_33, .inl (cI, 8, .inl (fun _ => nI 0))), (q40, .inr (6, [.ref q1_44, .ref q2_44, .ref q3_44, .ref q4_44, .ref q5_44, .ref q6_44, .int (nI 0), .int (nI 0), .int (nI 0)])), (q1_44, .inl (cI, 64, .inl (fun _ => nI 0))), (q2_44, .inl (cI, 64, .inl (fun _ => nI 0))), (q3_44, .inl (cI, 64, .inl (fun _ => nI 0))), (q4_44, .inl (cI, 8, .inl (fun _ => nI 0))), (q5_44, .inl (cI, 8, .inl (fun _ => nI 0))), (q6_44, .inl (cI, 64, .inl (fun _ => nI 0)))]) rfl ?_
  refine sg_perm (ws' := [(h0, .inr (5, [.int (nI 0), .int (nI 0), .int (nI 0), .int (nI 2), .int (nI 6), .int (nI 700), .int (nI 300), .ref q7, .ref q15, .ref q23, .ref q29, .ref q40])), (q7, .inl (cI, 8, .inl (fun _ => nI 0))), (q15, .inl (cI, 8, .inl (fun _ => nI 0))), (q23, .inl (cI, 64, .inl (fun _ => nI 0))), (q29, .inr (3, [.ref q1_33, .ref q2_33, .ref q3_33, .ref q4_33, .ref q5_33, .ref q6_33])), (q1_33, .inl (cI, 64, .inl (fun _ => nI 0))), (q2_33, .inl (cI, 64, .inl (fun _ => nI 0))), (q3_33, .inl (cI, 8, .inl (fun _ => nI 0))), (q4_33, .inl (cI, 8, .inl (fun _ => nI 0))), (q5_33, .inl (cI, 8, .inl (fun _ => nI 0))), (q6_33, .inl (cI, 8, .inl (fun _ => nI 0))), (q40, .inr (6, [.ref q1_44, .ref q2_44, .ref q3_44, .ref q4_44, .ref q5_44, .ref q6_44, .int (nI 0), .int (nI 0), .int (nI 0)])), (q1_44, .inl (cI, 64, .inl (fun _ => nI 0))), (q2_44, .inl (cI, 64, .inl (fun _ => nI 0))), (q3_44, .inl (cI, 64, .inl (fun _ => nI 0))), (q4_44, .inl (cI, 8, .inl (fun _ => nI 0))), (q5_44, .inl (cI, 8, .inl (fun _ => nI 0))), (q6_44, .inl (cI, 64, .inl (fun _ => nI 0)))]) [0, 1, 2, 3, 4, 5, 6, 7, 8, 9, 10, 11, 12, 13, 14, 15, 16, 17] rfl rfl ?_
  exact sg_vret h hQ dX5_init_54 ⟨q7, q15, q23, q29, q1_33, q2_33, q3_33, q4_33, q5_33, q6_33, q40, q1_44, q2_44, q3_44, q4_44, q5_44, q6_44, rfl⟩

