/-! the object as the law sees it -/
theorem MC.as {l : Launch} {w : Wd} {q : Mq} {d : Nat} {av : List Value} {σ : Mem} {v v' : Option Value} {P P' : Mem → Prop} (h : MC l w q d av σ v P) (e : v = v') (hi : ∀ σ', P σ' → P' σ') : MC l w q d av σ v' P' := by
  subst e
  exact h.imp hi
theorem toNn {i : Nat} (h : i < 2 ^ 31) : toN (nI i) = i := nI_clamp h
theorem rgN {a b : Nat} (h : a ≤ b) (hb : b < 2 ^ 31) : rg (nI a) (nI 0) (nI b) = 0 := rg_in (fun q => absurd ((nI_ltI (by omega) (by omega)).mp q) (by omega)) ((nI_leI (by omega) hb).mpr h)
theorem nBn {μ : Nat → Int32} {i : Nat} (hI : MI μ) (hi : i < nN μ) : nB μ (nI i) = true := by
  have h8 := mi_8 hI
  unfold nB
  rw [mi_0 hI, decide_eq_true (nI_pos' (n := i) (by omega)), decide_eq_true ((nI_ltI (by omega) (by omega)).mpr hi)]
  rfl
theorem nBo {μ : Nat → Int32} {i : Nat} (hI : MI μ) (hi : nN μ ≤ i) (h31 : i < 2 ^ 31) : nB μ (nI i) = false := by
  have h8 := mi_8 hI
  unfold nB
  rw [mi_0 hI, decide_eq_false (fun q => absurd ((nI_ltI h31 (by omega)).mp q) (by omega)), Bool.and_false]
theorem nBm {μ : Nat → Int32} : nB μ (-1) = false := by
  unfold nB
  rw [decide_eq_false (by decide), Bool.false_and]
theorem nsn {μ : Nat → Int32} {i : Nat} (hI : MI μ) (hi : i < nN μ) : ns μ (nI i) = 0 := if_pos (nBn hI hi)
theorem psn {μ : Nat → Int32} {i j : Nat} (hI : MI μ) (hi : i < nN μ) (hj : j < nN μ) (hij : i ≠ j) : ps μ (nI i) (nI j) = 0 := by
  have h8 := mi_8 hI
  unfold ps
  rw [nBn hI hi, nBn hI hj, Bool.and_self, if_pos rfl, if_neg (fun q => hij (nI_inj (by omega) (by omega) q))]
theorem an0 {v : Int32} : an 0 v = v := if_pos rfl
theorem fo00 : fo 0 0 = 0 := rfl
theorem sb_nI {s : Int32} {n : Nat} (hn : n ≤ 8) (h : sb n s) : ∃ m, m < 2 ^ n ∧ s = nI m := by
  refine ⟨s.toBitVec.toNat, Nat.lt_pow_two_of_testBit (n := n) _ (fun i hi => h i hi), ?_⟩
  apply Int32.toBitVec_inj.mp
  show s.toBitVec = BitVec.ofNat 32 s.toBitVec.toNat
  simp
theorem p2_8 {n : Nat} (hn : n ≤ 8) : 2 ^ n ≤ 256 ∧ 0 < 2 ^ n := ⟨Nat.pow_le_pow_right (n := 2) (by decide) hn, Nat.pow_pos (by decide)⟩
theorem bt1m {n : Nat} (hn : n ≤ 8) : bt1 n - nI 1 = nI (2 ^ n - 1) := by
  rw [bt1_pow hn, pk_sub (p2_8 hn).2]
theorem sBs {μ : Nat → Int32} {s : Int32} (hI : MI μ) (h : sb (nN μ) s) : sB μ s = 0 := by
  have h8 := mi_8 hI
  obtain ⟨m, hm, rfl⟩ := sb_nI h8 h
  have := (p2_8 h8).1
  unfold sB
  rw [bt1m h8]
  exact rgN (by omega) (by omega)
theorem sBo {μ : Nat → Int32} (hI : MI μ) : sB μ (bt1 (nN μ)) = 1 := by
  have h8 := mi_8 hI
  have := p2_8 h8
  unfold sB
  rw [bt1m h8, bt1_pow h8]
  exact rg_hi (fun q => absurd ((nI_leI (by omega) (by omega)).mp q) (by omega))
def LM (σ : Mem) (μ : Nat → Int32) : Prop := ∃ (nt : Nat) (g : Nat → Nat → Int32), vw (vb 0) σ = μ ∧ MI μ ∧ μ 7 = nI nt ∧ nt ≤ 1000 ∧ LC (vb 0) σ nt g ∧ jz μ ∧ jz (vw (vb 1) σ)
/-- what a call answers; the mesh behind it; its STATUS -/
def MCL (l : Launch) (w : Wd) (q : Mq) (d : Nat) (av : List Value) (σ : Mem) (r : Int32) (μ' : Nat → Int32) (S : Nat) : Prop := MC l w q d av σ (some (.int r)) (fun σ' => LM σ' μ' ∧ σ' 14000 = nI S)
section LMs
variable {σ σ' : Mem} {μ μ' : Nat → Int32}
theorem LM.v (h : LM σ μ) : vw (vb 0) σ = μ := by
  obtain ⟨nt, g, h1, h2⟩ := h
  exact h1
theorem LM.mi (h : LM σ μ) : MI μ := by
  obtain ⟨nt, g, h1, h2, h3⟩ := h
  exact h2
theorem LM.z (h : LM σ μ) : jz μ := by
  obtain ⟨nt, g, h1, h2, h3, h4, h5, h6, h7⟩ := h
  exact h6
theorem LM.fr (h : LM σ μ) (f : ∀ a, (a < 14900 ∧ a ≠ 14000) → σ' a = σ a) : LM σ' μ := by
  obtain ⟨nt, g, h1, h2, h3, h4, h5, h6, h7⟩ := h
  have e0 := vb_e 0
  have e1 := vb_e 1
  exact ⟨nt, g, (vw_of fun a q1 q2 q3 => f a (by omega)).trans h1, h2, h3, h4, h5.fr fun a q1 q2 => f a (by omega), h6, by rw [vw_of (σ := σ) (b := vb 1) fun a q1 q2 q3 => f a (by omega)]; exact h7⟩
theorem LM.mut (h : LM σ μ) (hG : Gd μ' μ) (v1 : vw (vb 0) σ' = μ') (f : ∀ a, ((a < 10000 ∨ 10464 ≤ a) ∧ a ≠ 14000) → σ' a = σ a) : LM σ' μ' := by
  obtain ⟨nt, g, h1, h2, h3, h4, h5, h6, h7⟩ := h
  have e0 := vb_e 0
  have e1 := vb_e 1
  exact ⟨nt, g, v1, hG.1, hG.2.1.trans h3, h4, h5.fr fun a q1 q2 => f a (by omega), hG.2.2, by rw [vw_of (σ := σ) (b := vb 1) fun a q1 q2 q3 => f a (by omega)]; exact h7⟩
variable {l : Launch} {w : Wd}
theorem lm_status (hW : Wi w) {S : Nat} (e : σ 14000 = nI S) : MC l w qX11_status 0 [.ref (w.1 0)] σ (some (.int (nI S))) (fun σ' => σ' = σ) := p_status hW (nI S) e
theorem lm_node (hW : Wi w) (h : LM σ μ) {i wt : Nat} (hi : i < nN μ) (hw : wt ≤ 9) : MCL l w qX11_node 3 [.ref (w.1 0), .int (nI i), .int (nI wt)] σ (v_node μ i wt) μ 0 := by
  have h8 := mi_8 h.mi
  have e1 := rgN hw (by decide)
  have e2 := nsn h.mi hi
  refine (p_node hW (nI i) (nI wt) μ h.v h.mi).as ?_ (fun σ' q => ⟨h.fr q.2, ?_⟩)
  · rw [e1, e2, fo00, an0, toNn (by omega), toNn (by omega)]
  · rw [q.1, e1, e2, fo00]
theorem lm_link (hW : Wi w) (h : LM σ μ) {i j : Nat} (hi : i < nN μ) (hj : j < nN μ) (hij : i ≠ j) : MCL l w qX11_link 2 [.ref (w.1 0), .int (nI i), .int (nI j), .int (nI 3)] σ (μ (144 + (8 * i + j))) μ 0 := by
  have h8 := mi_8 h.mi
  have e1 : rg (nI 3) (nI 0) (nI 5) = 0 := rgN (by decide) (by decide)
  have e2 := psn h.mi hi hj hij
  refine (p_link hW (nI i) (nI j) (nI 3) μ h.v h.mi).as ?_ (fun σ' q => ⟨h.fr q.2, ?_⟩)
  · rw [e1, e2, fo00, an0, toNn (by omega), toNn (by omega), toNn (by omega)]
    rfl
  · rw [q.1, e1, e2, fo00]
theorem lm_would (hW : Wi w) (h : LM σ μ) {i : Nat} (hi : i < nN μ) : MCL l w qX11_would 4 [.ref (w.1 0), .int (nI i)] σ (chos μ i) μ 0 := by
  have h8 := mi_8 h.mi
  have e2 := nsn h.mi hi
  refine (p_would hW (nI i) μ h.v h.mi).as ?_ (fun σ' q => ⟨h.fr q.2, ?_⟩)
  · rw [e2, an0, toNn (by omega)]
  · rw [q.1, e2]
theorem lm_least (hW : Wi w) (h : LM σ μ) {i : Nat} (hi : i < nN μ) : MCL l w qX11_least 4 [.ref (w.1 0), .int (nI i)] σ (lst μ i) μ 0 := by
  have h8 := mi_8 h.mi
  have e2 := nsn h.mi hi
  refine (p_least hW (nI i) μ h.v h.mi).as ?_ (fun σ' q => ⟨h.fr q.2, ?_⟩)
  · rw [e2, an0, toNn (by omega)]
  · rw [q.1, e2]
theorem lm_leastM (hW : Wi w) (h : LM σ μ) : MCL l w qX11_least 4 [.ref (w.1 0), .int (-1)] σ (-1) μ 2 := by
  have e2 : ns μ (-1) = 2 := if_neg (by rw [nBm]; decide)
  refine (p_least hW (-1) μ h.v h.mi).as ?_ (fun σ' q => ⟨h.fr q.2, ?_⟩)
  · rw [e2]; rfl
  · rw [q.1, e2]
theorem lm_covers (hW : Wi w) (h : LM σ μ) {i : Nat} {s : Int32} (hi : i < nN μ) (hs : sb (nN μ) s) : MCL l w qX11_covers 3 [.ref (w.1 0), .int (nI i), .int s] σ (bhd μ i &&& kno μ i (s &&& μ (64 + i))) μ 0 := by
  have h8 := mi_8 h.mi
  have e1 := sBs h.mi hs
  have e2 := nsn h.mi hi
  refine (p_covers hW (nI i) s μ h.v h.mi).as ?_ (fun σ' q => ⟨h.fr q.2, ?_⟩)
  · rw [e1, e2, fo00, an0, toNn (by omega)]
  · rw [q.1, e1, e2, fo00]
theorem lm_coversM (hW : Wi w) (h : LM σ μ) {i n : Nat} (hn : nN μ = n) : MCL l w qX11_covers 3 [.ref (w.1 0), .int (nI i), .int (bt1 n)] σ (-1) μ 1 := by
  subst hn
  have e1 := sBo h.mi
  refine (p_covers hW (nI i) (bt1 (nN μ)) μ h.v h.mi).as ?_ (fun σ' q => ⟨h.fr q.2, ?_⟩)
  · rw [e1, fo_l (by decide)]; rfl
  · rw [q.1, e1, fo_l (by decide)]
theorem lm_needed (hW : Wi w) (h : LM σ μ) {i : Nat} (hi : i < nN μ) : MCL l w qX11_needed 3 [.ref (w.1 0), .int (nI i)] σ (alo μ i (μ (48 + i)) (bhd μ i)) μ 0 := by
  have h8 := mi_8 h.mi
  have e2 := nsn h.mi hi
  refine (p_needed hW (nI i) μ h.v h.mi).as ?_ (fun σ' q => ⟨h.fr q.2, ?_⟩)
  · rw [e2, an0, toNn (by omega)]
  · rw [q.1, e2]
theorem lm_waste (hW : Wi w) (h : LM σ μ) : MCL l w qX11_waste 4 [.ref (w.1 0)] σ (wasS μ (nN μ)) μ 0 :=
  (p_waste hW μ h.v h.mi).as (by rw [an0]) (fun σ' q => ⟨h.fr q.2, q.1⟩)
theorem lm_will (hW : Wi w) (h : LM σ μ) {i x : Nat} (hi : i < nN μ) (hx : x < 8) : MCL l w qX11_will 2 [.ref (w.1 0), .int (nI i), .int (nI x)] σ (μ (16 + i)) (upd μ (16 + i) (nI x)) 0 := by
  have h8 := mi_8 h.mi
  have e1 : rg (nI x) (nI 0) (nI 7) = 0 := rgN (by omega) (by decide)
  have e2 := nsn h.mi hi
  have hG : Gd (upd μ (16 + i) (nI x)) μ := gd_up h.z (wl_mi h.mi (by omega) hx) (by omega)
  refine (p_will hW (nI i) (nI x) μ h.v h.mi).as ?_ (fun σ' q => ⟨h.mut hG ?_ q.2.2, ?_⟩)
  · rw [e1, e2, fo00, an0, toNn (by omega)]
  · rw [q.1, e1, e2, fo00, toNn (by omega), toNn (by omega)]
    exact if_pos rfl
  · rw [q.2.1, e1, e2, fo00]
theorem lm_pk0 {a b : Nat → Int32} {s : Nat} (h : s ≠ 0) : pk0 s a b = b := if_neg h
theorem gd_id (h : LM σ μ) : Gd μ μ := ⟨h.mi, rfl, h.z⟩
theorem lm_willM (hW : Wi w) (h : LM σ μ) {i : Nat} : MCL l w qX11_will 2 [.ref (w.1 0), .int (nI i), .int (nI 8)] σ (-1) μ 1 := by
  have e1 : rg (nI 8) (nI 0) (nI 7) = 1 := by decide
  refine (p_will hW (nI i) (nI 8) μ h.v h.mi).as ?_ (fun σ' q => ⟨h.mut (gd_id h) ?_ q.2.2, ?_⟩)
  · rw [e1, fo_l (by decide)]; rfl
  · rw [q.1, e1, fo_l (by decide)]; exact lm_pk0 (by decide)
  · rw [q.2.1, e1, fo_l (by decide)]
theorem lm_willN (hW : Wi w) (h : LM σ μ) {n : Nat} (hn : nN μ = n) : MCL l w qX11_will 2 [.ref (w.1 0), .int (nI n), .int (nI 1)] σ (-1) μ 2 := by
  subst hn
  have h8 := mi_8 h.mi
  have e1 : rg (nI 1) (nI 0) (nI 7) = 0 := by decide
  have e2 : ns μ (nI (nN μ)) = 2 := if_neg (by rw [nBo h.mi (Nat.le_refl _) (by omega)]; decide)
  refine (p_will hW (nI (nN μ)) (nI 1) μ h.v h.mi).as ?_ (fun σ' q => ⟨h.mut (gd_id h) ?_ q.2.2, ?_⟩)
  · rw [e1, e2, fo_r rfl]; rfl
  · rw [q.1, e1, e2, fo_r rfl]; exact lm_pk0 (by decide)
  · rw [q.2.1, e1, e2, fo_r rfl]
theorem ng_n {m : Nat} (h : m < 2 ^ 31) : ng (nI m) = 0 := ng_0 (nI_pos h)
theorem lm_pick (hW : Wi w) (h : LM σ μ) {i m : Nat} (hi : i < nN μ) (hm : m < pkn μ i) (h9 : m < 9) : MCL l w qX11_pick 4 [.ref (w.1 0), .int (nI i), .int (nI m)] σ (nI (px μ i m)) μ 0 := by
  have h8 := mi_8 h.mi
  have e2 := nsn h.mi hi
  have e3 : (if pkn μ (toN (nI i)) ≤ toN (nI m) then 7 else 0) = 0 := by rw [toNn (by omega), toNn (by omega)]; exact if_neg (by omega)
  refine (p_pick hW (nI i) (nI m) μ h.v h.mi).as ?_ (fun σ' q => ⟨h.fr q.2, ?_⟩)
  · rw [ng_n (by omega), e2, e3, fo00, fo00, an0, toNn (by omega), toNn (by omega)]
  · rw [q.1, ng_n (by omega), e2, e3, fo00, fo00]
theorem lm_pickE (hW : Wi w) (h : LM σ μ) {i m : Nat} (hi : i < nN μ) (hm : pkn μ i ≤ m) (h9 : m < 9) : MCL l w qX11_pick 4 [.ref (w.1 0), .int (nI i), .int (nI m)] σ (-1) μ 7 := by
  have h8 := mi_8 h.mi
  have e2 := nsn h.mi hi
  have e3 : (if pkn μ (toN (nI i)) ≤ toN (nI m) then 7 else 0) = 7 := by rw [toNn (by omega), toNn (by omega)]; exact if_pos hm
  refine (p_pick hW (nI i) (nI m) μ h.v h.mi).as ?_ (fun σ' q => ⟨h.fr q.2, ?_⟩)
  · rw [ng_n (by omega), e2, e3, fo00, fo_r rfl]; rfl
  · rw [q.1, ng_n (by omega), e2, e3, fo00, fo_r rfl]
theorem lm_pickM (hW : Wi w) (h : LM σ μ) : MCL l w qX11_pick 4 [.ref (w.1 0), .int (nI 0), .int (-1)] σ (-1) μ 1 := by
  have e1 : ng (-1) = 1 := by decide
  refine (p_pick hW (nI 0) (-1) μ h.v h.mi).as ?_ (fun σ' q => ⟨h.fr q.2, ?_⟩)
  · rw [e1, fo_l (a := fo 1 _) (by rw [fo_l (by decide)]; decide), fo_l (by decide)]; rfl
  · rw [q.1, e1, fo_l (a := fo 1 _) (by rw [fo_l (by decide)]; decide), fo_l (by decide)]
theorem lm_best (hW : Wi w) (h : LM σ μ) {i : Nat} (hi : i < nN μ) : MCL l w qX11_bestWill 5 [.ref (w.1 0), .int (nI i)] σ (nI (bwS μ i 8).1) μ 0 := by
  have h8 := mi_8 h.mi
  have e2 := nsn h.mi hi
  obtain ⟨nt, g, h1, h2, h3, h4, h5, h6, h7⟩ := id h
  refine (p_bestWill hW (nI i) nt g μ (vw (vb 1) σ) h1 h2 rfl h6 h7 h5).as ?_ (fun σ' q => ⟨?_, ?_⟩)
  · rw [e2, an0, toNn (by omega)]
  · obtain ⟨q1, ⟨ν, q2, q3⟩, q4⟩ := q
    have e0 := vb_e 0
    have e1 := vb_e 1
    exact ⟨nt, g, (vw_of fun a p1 p2 p3 => q4 a (by omega)).trans h1, h2, h3, h4, h5.fr fun a p1 p2 => q4 a (by omega), h6, by rw [q2]; exact q3⟩
  · rw [q.1, e2]
/-- a node more -/
def adW (μ : Nat → Int32) (x : Nat) : Nat → Int32 := upd (upd (upd μ (16 + nN μ) (nI x)) 1 (μ 1 ||| bt1 (nN μ))) 0 (nI (nN μ + 1))
theorem lm_add (hW : Wi w) (h : LM σ μ) {x : Nat} (hn : nN μ < 8) (hx : x < 8) : MCL l w qX11_add 2 [.ref (w.1 0), .int (nI x)] σ (nI (nN μ)) (adW μ x) 0 := by
  have e1 : rg (nI x) (nI 0) (nI 7) = 0 := rgN (by omega) (by decide)
  have e2 : (if nN μ = 8 then 5 else 0) = 0 := if_neg (by omega)
  have hG : Gd (adW μ x) μ := ⟨(ad_mi h.mi hn hx).1, by unfold adW; rw [upd_ne (by omega), upd_ne (by omega), upd_ne (by omega)], up_z (up_z (up_z h.z (by omega)) (by omega)) (by omega)⟩
  refine (p_add hW (nI x) μ h.v h.mi).as ?_ (fun σ' q => ⟨h.mut hG ?_ q.2.2, ?_⟩)
  · rw [e1, e2, fo00, an0]
  · rw [q.1, e1, e2, fo00, toNn (by omega)]
    exact if_pos rfl
  · rw [q.2.1, e1, e2, fo00]
theorem lm_ear (hW : Wi w) (h : LM σ μ) {i j : Nat} (hi : i < nN μ) (hj : j < nN μ) (hij : i ≠ j) (hf : tb (μ (24 + j)) i = false) : MCL l w qX11_ear 2 [.ref (w.1 0), .int (nI i), .int (nI j), .int (b2i true)] σ (b2i true) (upd μ (24 + j) (wth (μ (24 + j)) i true)) 0 := by
  have h8 := mi_8 h.mi
  have e1 := psn h.mi hi hj hij
  have e2 : (if tb (μ (24 + toN (nI j))) (toN (nI i)) = true then 6 else 0) = 0 := by rw [toNn (by omega), toNn (by omega), hf]; rfl
  have hG : Gd (upd μ (24 + j) (wth (μ (24 + j)) i true)) μ := gd_up h.z (he_mi h.mi (by omega) (by omega) hij) (by omega)
  refine (p_ear hW (nI i) (nI j) true μ h.v h.mi).as ?_ (fun σ' q => ⟨h.mut hG ?_ q.2.2, ?_⟩)
  · rw [e1, e2, fo00]; rfl
  · rw [q.1, e1, e2, fo00, toNn (by omega), toNn (by omega)]
    exact if_pos rfl
  · rw [q.2.1, e1, e2, fo00]
theorem lm_turn (hW : Wi w) (h : LM σ μ) {i : Nat} (hi : i < nN μ) (hf : tb (μ 1) i = true) : MCL l w qX11_turn 2 [.ref (w.1 0), .int (nI i), .int (b2i false)] σ (b2i true) (upd μ 1 (wth (μ 1) i false)) 0 := by
  have h8 := mi_8 h.mi
  have e1 := nsn h.mi hi
  have e2 : (if (nB μ (nI i) && tb (μ 1) (toN (nI i))) = false then 6 else 0) = 0 := by rw [toNn (by omega), hf, nBn h.mi hi]; rfl
  have hG : Gd (upd μ 1 (wth (μ 1) i false)) μ := gd_up h.z (on_mi h.mi hi) (by omega)
  refine (p_turn hW (nI i) false μ h.v h.mi).as ?_ (fun σ' q => ⟨h.mut hG ?_ q.2.2, ?_⟩)
  · rw [e1, e2, fo00]; rfl
  · rw [q.1, e1, e2, fo00, toNn (by omega)]
    exact if_pos rfl
  · rw [q.2.1, e1, e2, fo00]
/-- some ticks; nothing lost -/
theorem lm_tick (hW : Wi w) (h : LM σ μ) (h0 : μ 7 = nI 0) {m : Nat} (h1 : 1 ≤ m) (hm : m ≤ 20) : ∃ g, MCL l w qX11_tick 6 [.ref (w.1 0), .int (nI m)] σ ((tkL 0 (μ, 0, nI 0, g) m).1 2) (tkL 0 (μ, 0, nI 0, g) m).1 0 := by
  obtain ⟨nt, g, a1, a2, a3, a4, a5, a6, a7⟩ := h
  have e1 : rg (nI m) (nI 1) (nI 200) = 0 := rg_in (fun q => absurd ((nI_ltI (by omega) (by omega)).mp q) (by omega)) ((nI_leI (by omega) (by omega)).mpr (by omega))
  have hnt : nt = 0 := nI_inj (by omega) (by omega) (a3.symm.trans h0)
  subst hnt
  have em : toN (nI m) = m := toNn (by omega)
  have hp := p_tick (l := l) hW (nI m) 0 g μ a1 a2 a3 (by omega) a5
  rw [e1, em] at hp
  refine ⟨g, hp.as (by rw [an0]) (fun σ' q => ⟨?_, q.2.1⟩)⟩
  obtain ⟨q1, q2, q3, q4⟩ := q
  rw [if_pos rfl, if_pos rfl] at q3
  have q1 : vw (vb 0) σ' = (tkL 0 (μ, 0, nI 0, g) m).1 := q1.trans (if_pos rfl)
  obtain ⟨n', b1, b2⟩ := tkL_7 (ls := 0) (n := 0) (s := (μ, 0, nI 0, g)) a2 a3 m
  have b3 : nA (tkL 0 (μ, 0, nI 0, g) m).1 7 = n' := nA_nI (by omega) b2
  rw [b3] at q3
  have v1 := vb_e 1
  exact ⟨n', _, q1, (tkL_all (s := (μ, 0, nI 0, g)) a2 m).1, b2, by omega, q3, tkL_z (s := (μ, 0, nI 0, g)) a2 a6 m, by rw [vw_of (σ := σ) (b := vb 1) fun a p1 p2 p3 => q4 a (by omega)]; exact a7⟩
end LMs
