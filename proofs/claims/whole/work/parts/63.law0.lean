/-! the two, held together -/
def ME (σ : Mem) (N : Nat) (μ : Nat → Int32) (nt : Nat) (g : Nat → Nat → Int32) : Prop := vw 0 σ = μ ∧ vw (vb 0) σ = μ ∧ MI μ ∧ μ 7 = nI nt ∧ nt ≤ N ∧ LR 0 σ nt g ∧ LC (vb 0) σ nt g ∧ jz μ
def PJ (σ : Mem) : Prop := jz (vw (vb 1) σ)
def MK (σ : Mem) (N mk : Nat) (M : Nat → Nat → Int32) (T : Nat → Nat) (G : Nat → Nat → Nat → Int32) : Prop := mk ≤ 4 ∧ σ 4001 = nI mk ∧ σ 14001 = nI mk ∧ (∀ j, j < 4 → LR (1056 + 528 * j) σ (T j) (G j)) ∧ (∀ j, j < 4 → jz (vw (vb (2 + j)) σ)) ∧
  ∀ j, j < mk → vw (1056 + 528 * j) σ = M j ∧ vw (vb (2 + j)) σ = M j ∧ MI (M j) ∧ M j 7 = nI (T j) ∧ T j ≤ N ∧ LC (vb (2 + j)) σ (T j) (G j)
def TA (σ : Mem) (t : Nat) (tp : Nat → Nat) : Prop := t ≤ 400 ∧ σ 4002 = nI t ∧ σ 14002 = nI t ∧ TX 4100 σ t tp ∧ TX 14100 σ t tp
def FA (σ : Mem) : Prop := σ 4003 = σ 14003 ∧ σ 4004 = σ 14004
def LX (N : Nat) (σ : Mem) : Prop := (∃ μ nt g, ME σ N μ nt g) ∧ PJ σ ∧ (∃ mk M T G, MK σ N mk M T G) ∧ (∃ t tp, TA σ t tp) ∧ FA σ ∧ σ 4000 = σ 14000
section LXs
variable {σ σ' : Mem} {N N' : Nat}
theorem vb_e (m : Nat) : vb m = 10000 + 528 * m := rfl
theorem vw_of {b : Nat} (f : ∀ a, b ≤ a → a < b + 464 → a ≠ b + 10 → σ' a = σ a) : vw b σ' = vw b σ := vw_fr fun j h1 h2 => f _ (by omega) (by omega) (by omega)
theorem ME.fr {μ : Nat → Int32} {nt : Nat} {g : Nat → Nat → Int32} (h : ME σ N μ nt g) (f : ∀ a, (a < 528 ∨ (10000 ≤ a ∧ a < 10528 ∧ a ≠ 10010)) → σ' a = σ a) : ME σ' N μ nt g := by
  obtain ⟨h1, h2, h3, h4, h5, h6, h7, h8⟩ := h
  have e0 := vb_e 0
  exact ⟨(vw_of fun a q1 q2 q3 => f a (by omega)).trans h1, (vw_of fun a q1 q2 q3 => f a (by omega)).trans h2, h3, h4, h5, h6.fr fun a ha => f a (by omega), h7.fr fun a q1 q2 => f a (by omega), h8⟩
theorem ME.up {μ : Nat → Int32} {nt : Nat} {g : Nat → Nat → Int32} (h : ME σ N μ nt g) (hN : N ≤ N') : ME σ N' μ nt g := by
  obtain ⟨h1, h2, h3, h4, h5, h6⟩ := h
  exact ⟨h1, h2, h3, h4, Nat.le_trans h5 hN, h6⟩
theorem PJ.fr (h : PJ σ) (f : ∀ a, 10528 ≤ a → a < 11056 → σ' a = σ a) : PJ σ' := by
  have e1 := vb_e 1
  unfold PJ
  rw [vw_of (σ := σ) fun a q1 q2 q3 => f a (by omega) (by omega)]
  exact h
theorem MK.fr {mk : Nat} {M : Nat → Nat → Int32} {T : Nat → Nat} {G : Nat → Nat → Nat → Int32} (h : MK σ N mk M T G) (f : ∀ a, (a = 4001 ∨ a = 14001 ∨ (1056 ≤ a ∧ a < 3168) ∨ (11056 ≤ a ∧ a < 13168)) → σ' a = σ a) : MK σ' N mk M T G := by
  obtain ⟨h1, h2, h3, h4, h5, h6⟩ := h
  refine ⟨h1, (f _ (by omega)).trans h2, (f _ (by omega)).trans h3, fun j hj => (h4 j hj).fr fun a ha => f a (by omega), fun j hj => ?_, fun j hj => ?_⟩
  · have e1 := vb_e (2 + j)
    rw [vw_of (σ := σ) fun a q1 q2 q3 => f a (by omega)]
    exact h5 j hj
  · obtain ⟨k1, k2, k3, k4, k5, k6⟩ := h6 j hj
    have e1 := vb_e (2 + j)
    exact ⟨(vw_of fun a q1 q2 q3 => f a (by omega)).trans k1, (vw_of fun a q1 q2 q3 => f a (by omega)).trans k2, k3, k4, k5, k6.fr fun a q1 q2 => f a (by omega)⟩
theorem MK.up {mk : Nat} {M : Nat → Nat → Int32} {T : Nat → Nat} {G : Nat → Nat → Nat → Int32} (h : MK σ N mk M T G) (hN : N ≤ N') : MK σ N' mk M T G := by
  obtain ⟨h1, h2, h3, h4, h5, h6⟩ := h
  refine ⟨h1, h2, h3, h4, h5, fun j hj => ?_⟩
  obtain ⟨k1, k2, k3, k4, k5, k6⟩ := h6 j hj
  exact ⟨k1, k2, k3, k4, Nat.le_trans k5 hN, k6⟩
theorem TA.fr {t : Nat} {tp : Nat → Nat} (h : TA σ t tp) (f : ∀ a, (a = 4002 ∨ a = 14002 ∨ (4100 ≤ a ∧ a < 4500) ∨ (14100 ≤ a ∧ a < 14500)) → σ' a = σ a) : TA σ' t tp := by
  obtain ⟨h1, h2, h3, h4, h5⟩ := h
  exact ⟨h1, (f _ (by omega)).trans h2, (f _ (by omega)).trans h3, h4.fr fun a q1 q2 => f a (by omega), h5.fr fun a q1 q2 => f a (by omega)⟩
theorem FA.fr (h : FA σ) (f : ∀ a, (a = 4003 ∨ a = 4004 ∨ a = 14003 ∨ a = 14004) → σ' a = σ a) : FA σ' := by
  refine ⟨?_, ?_⟩
  · rw [f _ (by omega), f _ (by omega)]; exact h.1
  · rw [f _ (by omega), f _ (by omega)]; exact h.2
end LXs
def ST (l : Launch) (w : Wd) (N : Nat) (qc qr : Mq) (dc dr : Nat) (av : List Value) : Prop :=
  ∀ σ, LX N σ → N < 2 ^ 29 → ∃ (r : Int32) (P1 : Mem → Prop), MC l w qc dc (.ref (w.1 12) :: av) σ (some (.int r)) P1 ∧ ∀ σ1, P1 σ1 → ∃ P2 : Mem → Prop, MC l w qr dr (.ref (w.1 0) :: av) σ1 (some (.int r)) P2 ∧ ∀ σ2, P2 σ2 → LX (N + 1600) σ2
theorem LX.pure {σ σ1 σ2 : Mem} {N : Nat} {S : Int32} (h : LX N σ) (e1 : σ1 14000 = S) (f1 : ∀ a, (a < 14900 ∧ a ≠ 14000 ∧ a ≠ 10010) → σ1 a = σ a) (e2 : σ2 4000 = S) (f2 : ∀ a, ((a < 4900 ∨ 6000 ≤ a) ∧ a ≠ 4000) → σ2 a = σ1 a) : LX (N + 1600) σ2 := by
  obtain ⟨⟨μ, nt, g, hM⟩, hJ, ⟨mk, M, T, G, hK⟩, ⟨t, tp, hT⟩, hF, hS⟩ := h
  have f : ∀ a, a < 4900 ∨ 6000 ≤ a → a < 14900 → a ≠ 4000 → a ≠ 14000 → a ≠ 10010 → σ2 a = σ a := fun a q1 q2 q3 q4 q5 => (f2 a (by omega)).trans (f1 a (by omega))
  exact ⟨⟨μ, nt, g, (hM.fr fun a ha => f a (by omega) (by omega) (by omega) (by omega) (by omega)).up (by omega)⟩, hJ.fr fun a q1 q2 => f a (by omega) (by omega) (by omega) (by omega) (by omega), ⟨mk, M, T, G, (hK.fr fun a ha => f a (by omega) (by omega) (by omega) (by omega) (by omega)).up (by omega)⟩, ⟨t, tp, hT.fr fun a ha => f a (by omega) (by omega) (by omega) (by omega) (by omega)⟩, hF.fr fun a ha => f a (by omega) (by omega) (by omega) (by omega) (by omega), e2.trans ((f2 14000 (by omega)).trans e1).symm⟩
/-- behind the class's call the reference's mesh stands as it stood -/
theorem ME.ref {σ σ1 : Mem} {N nt : Nat} {μ : Nat → Int32} {g : Nat → Nat → Int32} (h : ME σ N μ nt g) (f1 : ∀ a, a < 528 → σ1 a = σ a) : vw 0 σ1 = μ ∧ LR 0 σ1 nt g := ⟨(vw_of fun a q1 q2 q3 => f1 a (by omega)).trans h.1, h.2.2.2.2.2.1.fr fun a ha => f1 a (by omega)⟩
section SS
variable {l : Launch} {w : Wd} {N : Nat}

theorem st_node (hW : Wi w) (i : Int32) (wt : Int32) : ST l w N qX11_node qX12_node 3 3 [.int i, .int wt] := fun σ h hN9 => by
  obtain ⟨⟨μ, nt, g, hM⟩, hJ, ⟨mk, M, T, G, hK⟩, ⟨t9, tp, hT⟩, hF, hS⟩ := id h
  have hv0 := vb_e 0
  have hv1 := vb_e 1
  refine ⟨_, _, p_node hW i wt μ hM.2.1 hM.2.2.1, fun σ1 h1 => ?_⟩
  refine ⟨_, q_node hW i wt μ (hM.ref fun a ha => h1.2 a (by omega)).1 hM.2.2.1, fun σ2 h2 => LX.pure h h1.1 (fun a ha => h1.2 a ⟨ha.1, ha.2.1⟩) h2.1 h2.2⟩

theorem st_link (hW : Wi w) (i : Int32) (j : Int32) (wt : Int32) : ST l w N qX11_link qX12_link 2 3 [.int i, .int j, .int wt] := fun σ h hN9 => by
  obtain ⟨⟨μ, nt, g, hM⟩, hJ, ⟨mk, M, T, G, hK⟩, ⟨t9, tp, hT⟩, hF, hS⟩ := id h
  have hv0 := vb_e 0
  have hv1 := vb_e 1
  refine ⟨_, _, p_link hW i j wt μ hM.2.1 hM.2.2.1, fun σ1 h1 => ?_⟩
  refine ⟨_, q_link hW i j wt μ (hM.ref fun a ha => h1.2 a (by omega)).1 hM.2.2.1, fun σ2 h2 => LX.pure h h1.1 (fun a ha => h1.2 a ⟨ha.1, ha.2.1⟩) h2.1 h2.2⟩

theorem st_topology (hW : Wi w) (i : Int32) (j : Int32) (wt : Int32) : ST l w N qX11_topology qX12_topology 2 3 [.int i, .int j, .int wt] := fun σ h hN9 => by
  obtain ⟨⟨μ, nt, g, hM⟩, hJ, ⟨mk, M, T, G, hK⟩, ⟨t9, tp, hT⟩, hF, hS⟩ := id h
  have hv0 := vb_e 0
  have hv1 := vb_e 1
  refine ⟨_, _, p_topology hW i j wt μ hM.2.1 hM.2.2.1, fun σ1 h1 => ?_⟩
  refine ⟨_, q_topology hW i j wt μ (hM.ref fun a ha => h1.2 a (by omega)).1 hM.2.2.1, fun σ2 h2 => LX.pure h h1.1 (fun a ha => h1.2 a ⟨ha.1, ha.2.1⟩) h2.1 h2.2⟩

theorem st_would (hW : Wi w) (i : Int32) : ST l w N qX11_would qX12_would 4 5 [.int i] := fun σ h hN9 => by
  obtain ⟨⟨μ, nt, g, hM⟩, hJ, ⟨mk, M, T, G, hK⟩, ⟨t9, tp, hT⟩, hF, hS⟩ := id h
  have hv0 := vb_e 0
  have hv1 := vb_e 1
  refine ⟨_, _, p_would hW i μ hM.2.1 hM.2.2.1, fun σ1 h1 => ?_⟩
  refine ⟨_, q_would hW i μ (hM.ref fun a ha => h1.2 a (by omega)).1 hM.2.2.1, fun σ2 h2 => LX.pure h h1.1 (fun a ha => h1.2 a ⟨ha.1, ha.2.1⟩) h2.1 h2.2⟩

theorem st_least (hW : Wi w) (i : Int32) : ST l w N qX11_least qX12_least 4 4 [.int i] := fun σ h hN9 => by
  obtain ⟨⟨μ, nt, g, hM⟩, hJ, ⟨mk, M, T, G, hK⟩, ⟨t9, tp, hT⟩, hF, hS⟩ := id h
  have hv0 := vb_e 0
  have hv1 := vb_e 1
  refine ⟨_, _, p_least hW i μ hM.2.1 hM.2.2.1, fun σ1 h1 => ?_⟩
  refine ⟨_, q_least hW i μ (hM.ref fun a ha => h1.2 a (by omega)).1 hM.2.2.1, fun σ2 h2 => LX.pure h h1.1 (fun a ha => h1.2 a ⟨ha.1, ha.2.1⟩) h2.1 h2.2⟩

theorem st_covers (hW : Wi w) (i : Int32) (z : Int32) : ST l w N qX11_covers qX12_covers 3 3 [.int i, .int z] := fun σ h hN9 => by
  obtain ⟨⟨μ, nt, g, hM⟩, hJ, ⟨mk, M, T, G, hK⟩, ⟨t9, tp, hT⟩, hF, hS⟩ := id h
  have hv0 := vb_e 0
  have hv1 := vb_e 1
  refine ⟨_, _, p_covers hW i z μ hM.2.1 hM.2.2.1, fun σ1 h1 => ?_⟩
  refine ⟨_, q_covers hW i z μ (hM.ref fun a ha => h1.2 a (by omega)).1 hM.2.2.1, fun σ2 h2 => LX.pure h h1.1 (fun a ha => h1.2 a ⟨ha.1, ha.2.1⟩) h2.1 h2.2⟩

theorem st_needed (hW : Wi w) (i : Int32) : ST l w N qX11_needed qX12_needed 3 4 [.int i] := fun σ h hN9 => by
  obtain ⟨⟨μ, nt, g, hM⟩, hJ, ⟨mk, M, T, G, hK⟩, ⟨t9, tp, hT⟩, hF, hS⟩ := id h
  have hv0 := vb_e 0
  have hv1 := vb_e 1
  refine ⟨_, _, p_needed hW i μ hM.2.1 hM.2.2.1, fun σ1 h1 => ?_⟩
  refine ⟨_, q_needed hW i μ (hM.ref fun a ha => h1.2 a (by omega)).1 hM.2.2.1, fun σ2 h2 => LX.pure h h1.1 (fun a ha => h1.2 a ⟨ha.1, ha.2.1⟩) h2.1 h2.2⟩

theorem st_waste (hW : Wi w) : ST l w N qX11_waste qX12_waste 4 4 [] := fun σ h hN9 => by
  obtain ⟨⟨μ, nt, g, hM⟩, hJ, ⟨mk, M, T, G, hK⟩, ⟨t9, tp, hT⟩, hF, hS⟩ := id h
  have hv0 := vb_e 0
  have hv1 := vb_e 1
  refine ⟨_, _, p_waste hW  μ hM.2.1 hM.2.2.1, fun σ1 h1 => ?_⟩
  refine ⟨_, q_waste hW  μ (hM.ref fun a ha => h1.2 a (by omega)).1 hM.2.2.1, fun σ2 h2 => LX.pure h h1.1 (fun a ha => h1.2 a ⟨ha.1, ha.2.1⟩) h2.1 h2.2⟩

theorem st_route (hW : Wi w) (i : Int32) (j : Int32) (wt : Int32) : ST l w N qX11_route qX12_route 3 5 [.int i, .int j, .int wt] := fun σ h hN9 => by
  obtain ⟨⟨μ, nt, g, hM⟩, hJ, ⟨mk, M, T, G, hK⟩, ⟨t9, tp, hT⟩, hF, hS⟩ := id h
  have hv0 := vb_e 0
  have hv1 := vb_e 1
  refine ⟨_, _, p_route hW i j wt μ hM.2.1 hM.2.2.1, fun σ1 h1 => ?_⟩
  refine ⟨_, q_route hW i j wt μ (hM.ref fun a ha => h1.2 a (by omega)).1 hM.2.2.1, fun σ2 h2 => LX.pure h h1.1 (fun a ha => h1.2 a ⟨ha.1, ha.2.1⟩) h2.1 h2.2⟩

theorem st_table (hW : Wi w) (i : Int32) : ST l w N qX11_table qX12_table 3 6 [.int i] := fun σ h hN9 => by
  obtain ⟨⟨μ, nt, g, hM⟩, hJ, ⟨mk, M, T, G, hK⟩, ⟨t9, tp, hT⟩, hF, hS⟩ := id h
  have hv0 := vb_e 0
  have hv1 := vb_e 1
  refine ⟨_, _, p_table hW i μ hM.2.1 hM.2.2.1, fun σ1 h1 => ?_⟩
  refine ⟨_, q_table hW i μ (hM.ref fun a ha => h1.2 a (by omega)).1 hM.2.2.1, fun σ2 h2 => LX.pure h h1.1 (fun a ha => h1.2 a ⟨ha.1, ha.2.1⟩) h2.1 h2.2⟩

theorem st_goes (hW : Wi w) (i : Int32) (j : Int32) (wt : Int32) : ST l w N qX11_goes qX12_goes 4 6 [.int i, .int j, .int wt] := fun σ h hN9 => by
  obtain ⟨⟨μ, nt, g, hM⟩, hJ, ⟨mk, M, T, G, hK⟩, ⟨t9, tp, hT⟩, hF, hS⟩ := id h
  have hv0 := vb_e 0
  have hv1 := vb_e 1
  refine ⟨_, _, p_goes hW i j wt μ hM.2.1 hM.2.2.1, fun σ1 h1 => ?_⟩
  refine ⟨_, q_goes hW i j wt μ (hM.ref fun a ha => h1.2 a (by omega)).1 hM.2.2.1, fun σ2 h2 => LX.pure h h1.1 (fun a ha => h1.2 a ⟨ha.1, ha.2.1⟩) h2.1 h2.2⟩

theorem st_path (hW : Wi w) (i : Int32) (j : Int32) (z : Int32) : ST l w N qX11_path qX12_path 4 6 [.int i, .int j, .int z] := fun σ h hN9 => by
  obtain ⟨⟨μ, nt, g, hM⟩, hJ, ⟨mk, M, T, G, hK⟩, ⟨t9, tp, hT⟩, hF, hS⟩ := id h
  have hv0 := vb_e 0
  have hv1 := vb_e 1
  refine ⟨_, _, p_path hW i j z μ hM.2.1 hM.2.2.1, fun σ1 h1 => ?_⟩
  refine ⟨_, q_path hW i j z μ (hM.ref fun a ha => h1.2 a (by omega)).1 hM.2.2.1, fun σ2 h2 => LX.pure h h1.1 (fun a ha => h1.2 a ⟨ha.1, ha.2.1⟩) h2.1 h2.2⟩

theorem st_far (hW : Wi w) (i : Int32) (j : Int32) : ST l w N qX11_far qX12_far 4 5 [.int i, .int j] := fun σ h hN9 => by
  obtain ⟨⟨μ, nt, g, hM⟩, hJ, ⟨mk, M, T, G, hK⟩, ⟨t9, tp, hT⟩, hF, hS⟩ := id h
  have hv0 := vb_e 0
  have hv1 := vb_e 1
  refine ⟨_, _, p_far hW i j μ hM.2.1 hM.2.2.1, fun σ1 h1 => ?_⟩
  refine ⟨_, q_far hW i j μ (hM.ref fun a ha => h1.2 a (by omega)).1 hM.2.2.1, fun σ2 h2 => LX.pure h h1.1 (fun a ha => h1.2 a ⟨ha.1, ha.2.1⟩) h2.1 h2.2⟩

theorem st_wrong (hW : Wi w) (i : Int32) (wt : Int32) : ST l w N qX11_wrong qX12_wrong 4 6 [.int i, .int wt] := fun σ h hN9 => by
  obtain ⟨⟨μ, nt, g, hM⟩, hJ, ⟨mk, M, T, G, hK⟩, ⟨t9, tp, hT⟩, hF, hS⟩ := id h
  have hv0 := vb_e 0
  have hv1 := vb_e 1
  refine ⟨_, _, p_wrong hW i wt μ hM.2.1 hM.2.2.1, fun σ1 h1 => ?_⟩
  refine ⟨_, q_wrong hW i wt μ (hM.ref fun a ha => h1.2 a (by omega)).1 hM.2.2.1, fun σ2 h2 => LX.pure h h1.1 (fun a ha => h1.2 a ⟨ha.1, ha.2.1⟩) h2.1 h2.2⟩

theorem st_told (hW : Wi w) : ST l w N qX11_told qX12_told 5 7 [] := fun σ h hN9 => by
  obtain ⟨⟨μ, nt, g, hM⟩, hJ, ⟨mk, M, T, G, hK⟩, ⟨t9, tp, hT⟩, hF, hS⟩ := id h
  have hv0 := vb_e 0
  have hv1 := vb_e 1
  refine ⟨_, _, p_told hW  μ hM.2.1 hM.2.2.1, fun σ1 h1 => ?_⟩
  refine ⟨_, q_told hW  μ (hM.ref fun a ha => h1.2 a (by omega)).1 hM.2.2.1, fun σ2 h2 => LX.pure h h1.1 (fun a ha => h1.2 a ⟨ha.1, ha.2.1⟩) h2.1 h2.2⟩

theorem st_sure (hW : Wi w) (i : Int32) (j : Int32) : ST l w N qX11_sure qX12_sure 4 6 [.int i, .int j] := fun σ h hN9 => by
  obtain ⟨⟨μ, nt, g, hM⟩, hJ, ⟨mk, M, T, G, hK⟩, ⟨t9, tp, hT⟩, hF, hS⟩ := id h
  have hv0 := vb_e 0
  have hv1 := vb_e 1
  refine ⟨_, _, p_sure hW i j μ hM.2.1 hM.2.2.1, fun σ1 h1 => ?_⟩
  refine ⟨_, q_sure hW i j μ (hM.ref fun a ha => h1.2 a (by omega)).1 hM.2.2.1, fun σ2 h2 => LX.pure h h1.1 (fun a ha => h1.2 a ⟨ha.1, ha.2.1⟩) h2.1 h2.2⟩

theorem st_astray (hW : Wi w) (wt : Int32) : ST l w N qX11_astray qX12_astray 4 6 [.int wt] := fun σ h hN9 => by
  obtain ⟨⟨μ, nt, g, hM⟩, hJ, ⟨mk, M, T, G, hK⟩, ⟨t9, tp, hT⟩, hF, hS⟩ := id h
  have hv0 := vb_e 0
  have hv1 := vb_e 1
  refine ⟨_, _, p_astray hW wt μ hM.2.1 hM.2.2.1, fun σ1 h1 => ?_⟩
  refine ⟨_, q_astray hW wt μ (hM.ref fun a ha => h1.2 a (by omega)).1 hM.2.2.1, fun σ2 h2 => LX.pure h h1.1 (fun a ha => h1.2 a ⟨ha.1, ha.2.1⟩) h2.1 h2.2⟩

theorem st_proves (hW : Wi w) (i : Int32) (j : Int32) (hd : Int32) (n : Int32) (wt : Int32) : ST l w N qX11_proves qX12_proves 2 3 [.int i, .int j, .int hd, .int n, .int wt] := fun σ h hN9 => by
  obtain ⟨⟨μ, nt, g, hM⟩, hJ, ⟨mk, M, T, G, hK⟩, ⟨t9, tp, hT⟩, hF, hS⟩ := id h
  have hv0 := vb_e 0
  have hv1 := vb_e 1
  refine ⟨_, _, p_proves hW i j hd n wt μ hM.2.1 hM.2.2.1, fun σ1 h1 => ?_⟩
  refine ⟨_, q_proves hW i j hd n wt μ (hM.ref fun a ha => h1.2 a (by omega)).1 hM.2.2.1, fun σ2 h2 => LX.pure h h1.1 (fun a ha => h1.2 a ⟨ha.1, ha.2.1⟩) h2.1 h2.2⟩

theorem st_spine (hW : Wi w) (wt : Int32) : ST l w N qX11_spine qX12_spine 6 5 [.int wt] := fun σ h hN9 => by
  obtain ⟨⟨μ, nt, g, hM⟩, hJ, ⟨mk, M, T, G, hK⟩, ⟨t9, tp, hT⟩, hF, hS⟩ := id h
  have hv0 := vb_e 0
  have hv1 := vb_e 1
  refine ⟨_, _, p_spine hW wt μ hM.2.1 hM.2.2.1, fun σ1 h1 => ?_⟩
  refine ⟨_, q_spine hW wt μ (hM.ref fun a ha => h1.2 a (by omega)).1 hM.2.2.1, fun σ2 h2 => LX.pure h h1.1 (fun a ha => h1.2 a ⟨ha.1, ha.2.1⟩) h2.1 h2.2⟩

theorem st_cuts (hW : Wi w) : ST l w N qX11_cuts qX12_cuts 4 5 [] := fun σ h hN9 => by
  obtain ⟨⟨μ, nt, g, hM⟩, hJ, ⟨mk, M, T, G, hK⟩, ⟨t9, tp, hT⟩, hF, hS⟩ := id h
  have hv0 := vb_e 0
  have hv1 := vb_e 1
  refine ⟨_, _, p_cuts hW  μ hM.2.1 hM.2.2.1, fun σ1 h1 => ?_⟩
  refine ⟨_, q_cuts hW  μ (hM.ref fun a ha => h1.2 a (by omega)).1 hM.2.2.1, fun σ2 h2 => LX.pure h h1.1 (fun a ha => h1.2 a ⟨ha.1, ha.2.1⟩) h2.1 h2.2⟩

theorem st_flood (hW : Wi w) (i : Int32) (wt : Int32) : ST l w N qX11_flood qX12_flood 4 4 [.int i, .int wt] := fun σ h hN9 => by
  obtain ⟨⟨μ, nt, g, hM⟩, hJ, ⟨mk, M, T, G, hK⟩, ⟨t9, tp, hT⟩, hF, hS⟩ := id h
  have hv0 := vb_e 0
  have hv1 := vb_e 1
  refine ⟨_, _, p_flood hW i wt μ hM.2.1 hM.2.2.1, fun σ1 h1 => ?_⟩
  refine ⟨_, q_flood hW i wt μ (hM.ref fun a ha => h1.2 a (by omega)).1 hM.2.2.1, fun σ2 h2 => LX.pure h h1.1 (fun a ha => h1.2 a ha) h2.1 h2.2⟩

theorem st_older (hW : Wi w) (a : Int32) (b : Int32) : ST l w N qX11_older qX12_older 1 2 [.int a, .int b] := fun σ h hN9 => by
  obtain ⟨⟨μ, nt, g, hM⟩, hJ, ⟨mk, M, T, G, hK⟩, ⟨t9, tp, hT⟩, hF, hS⟩ := id h
  have hv0 := vb_e 0
  have hv1 := vb_e 1
  refine ⟨_, _, p_older hW a b μ hM.2.1 hM.2.2.1, fun σ1 h1 => ?_⟩
  refine ⟨_, q_older hW a b μ (hM.ref fun a ha => h1.2 a (by omega)).1 hM.2.2.1, fun σ2 h2 => LX.pure h h1.1 (fun a ha => h1.2 a ⟨ha.1, ha.2.1⟩) h2.1 h2.2⟩

theorem st_pick (hW : Wi w) (i : Int32) (z : Int32) : ST l w N qX11_pick qX12_pick 4 5 [.int i, .int z] := fun σ h hN9 => by
  obtain ⟨⟨μ, nt, g, hM⟩, hJ, ⟨mk, M, T, G, hK⟩, ⟨t9, tp, hT⟩, hF, hS⟩ := id h
  have hv0 := vb_e 0
  have hv1 := vb_e 1
  refine ⟨_, _, p_pick hW i z μ hM.2.1 hM.2.2.1, fun σ1 h1 => ?_⟩
  refine ⟨_, q_pick hW i z μ (hM.ref fun a ha => h1.2 a (by omega)).1 hM.2.2.1, fun σ2 h2 => LX.pure h h1.1 (fun a ha => h1.2 a ⟨ha.1, ha.2.1⟩) h2.1 h2.2⟩

theorem st_busy (hW : Wi w) (k : Int32) : ST l w N qX11_busy qX12_busy 4 6 [.int k] := fun σ h hN9 => by
  obtain ⟨⟨μ, nt, g, hM⟩, hJ, ⟨mk, M, T, G, hK⟩, ⟨t9, tp, hT⟩, hF, hS⟩ := id h
  have hv0 := vb_e 0
  have hv1 := vb_e 1
  refine ⟨_, _, p_busy hW k μ hM.2.1 hM.2.2.1, fun σ1 h1 => ?_⟩
  refine ⟨_, q_busy hW k μ (hM.ref fun a ha => h1.2 a (by omega)).1 hM.2.2.1, fun σ2 h2 => LX.pure h h1.1 (fun a ha => h1.2 a ⟨ha.1, ha.2.1⟩) h2.1 h2.2⟩

theorem st_many (hW : Wi w) (wt : Int32) : ST l w N qX11_many qX12_many 1 1 [.int wt] := fun σ h hN9 => by
  obtain ⟨⟨μ, nt, g, hM⟩, hJ, ⟨mk, M, T, G, hK⟩, ⟨t9, tp, hT⟩, hF, hS⟩ := id h
  have hv0 := vb_e 0
  have hv1 := vb_e 1
  refine ⟨_, _, p_many hW wt mk μ hM.2.1 hM.2.2.1 hK.2.2.1, fun σ1 h1 => ?_⟩
  refine ⟨_, q_many hW wt mk μ (hM.ref fun a ha => h1.2 a (by omega)).1 hM.2.2.1 ((h1.2 _ (by omega)).trans hK.2.1), fun σ2 h2 => LX.pure h h1.1 (fun a ha => h1.2 a ⟨ha.1, ha.2.1⟩) h2.1 h2.2⟩

theorem st_notice (hW : Wi w) (i : Int32) (wt : Int32) : ST l w N qX11_notice qX12_notice 2 1 [.int i, .int wt] := fun σ h hN9 => by
  obtain ⟨⟨μ, nt, g, hM⟩, hJ, ⟨mk, M, T, G, hK⟩, ⟨t9, tp, hT⟩, hF, hS⟩ := id h
  have hv0 := vb_e 0
  have hv1 := vb_e 1
  refine ⟨_, _, p_notice hW i wt nt g μ hM.2.1 hM.2.2.1 hM.2.2.2.1 (by have := hM.2.2.2.2.1; omega) hM.2.2.2.2.2.2.1, fun σ1 h1 => ?_⟩
  obtain ⟨m1, m2⟩ := hM.ref (σ1 := σ1) fun a ha => h1.2 a (by omega)
  refine ⟨_, q_notice hW i wt nt g μ m1 hM.2.2.1 (by have := hM.2.2.2.2.1; omega) m2, fun σ2 h2 => LX.pure h h1.1 (fun a ha => h1.2 a ⟨ha.1, ha.2.1⟩) h2.1 h2.2⟩

theorem LX.up {σ : Mem} (h : LX N σ) : LX (N + 1600) σ := by
  obtain ⟨⟨μ, nt, g, hM⟩, hJ, ⟨mk, M, T, G, hK⟩, ht⟩ := h
  exact ⟨⟨μ, nt, g, hM.up (by omega)⟩, hJ, ⟨mk, M, T, G, hK.up (by omega)⟩, ht⟩

theorem st_status (hW : Wi w) : ST l w N qX11_status qX12_status 0 0 [] := fun σ h hN9 => by
  obtain ⟨⟨μ, nt, g, hM⟩, hJ, ⟨mk, M, T, G, hK⟩, ⟨t9, tp, hT⟩, hF, hS⟩ := id h
  have hv0 := vb_e 0
  have hv1 := vb_e 1
  refine ⟨_, _, p_status hW (σ 14000) rfl, fun σ1 h1 => ?_⟩
  subst h1
  exact ⟨_, q_status hW (σ1 14000) hS, fun σ2 h2 => by subst h2; exact h.up⟩

theorem st_fault (hW : Wi w) (a : Int32) : ST l w N qX11_fault qX12_fault 0 0 [.int a] := fun σ h hN9 => by
  obtain ⟨⟨μ, nt, g, hM⟩, hJ, ⟨mk, M, T, G, hK⟩, ⟨t9, tp, hT⟩, hF, hS⟩ := id h
  have hv0 := vb_e 0
  have hv1 := vb_e 1
  refine ⟨_, _, p_fault hW a (σ 14003) (σ 14004) rfl rfl, fun σ1 h1 => ?_⟩
  subst h1
  exact ⟨_, q_fault hW a (σ1 14003) (σ1 14004) hF.1 hF.2, fun σ2 h2 => by subst h2; exact h.up⟩

theorem LX.paper {σ σ1 σ2 : Mem} {S : Int32} {μ : Nat → Int32} {nt : Nat} {g : Nat → Nat → Int32} (h : LX N σ) (hM : ME σ N μ nt g) (e1 : σ1 14000 = S) (j1 : ∃ ν, vw (vb 1) σ1 = ν ∧ jz ν) (f1 : ∀ a, ((a < vb 1 ∨ vb 1 + 528 ≤ a) ∧ a < 14900 ∧ a ≠ 14000) → σ1 a = σ a) (e2 : σ2 4000 = S) (v2 : vw 0 σ2 = μ) (l2 : LR 0 σ2 nt g) (f2 : ∀ a, (1056 ≤ a ∧ (a < 4900 ∨ 6000 ≤ a) ∧ a ≠ 4000) → σ2 a = σ1 a) : LX (N + 1600) σ2 := by
  obtain ⟨-, hJ, ⟨mk, M, T, G, hK⟩, ⟨t, tp, hT⟩, hF, hS⟩ := h
  have e0 := vb_e 0
  have hv1 := vb_e 1
  have f : ∀ a, 1056 ≤ a → (a < 4900 ∨ 6000 ≤ a) → a < 14900 → a ≠ 4000 → a ≠ 14000 → (a < 10528 ∨ 11056 ≤ a) → σ2 a = σ a := fun a q0 q1 q2 q3 q4 q5 => (f2 a (by omega)).trans (f1 a (by omega))
  obtain ⟨m1, m2, m3, m4, m5, m6, m7, m8⟩ := hM
  obtain ⟨ν, j2, j3⟩ := j1
  refine ⟨⟨μ, nt, g, v2, (vw_of fun a q1 q2 q3 => f a (by omega) (by omega) (by omega) (by omega) (by omega) (by omega)).trans m2, m3, m4, by omega, l2, m7.fr fun a q1 q2 => f a (by omega) (by omega) (by omega) (by omega) (by omega) (by omega), m8⟩, ?_, ⟨mk, M, T, G, (hK.fr fun a ha => f a (by omega) (by omega) (by omega) (by omega) (by omega) (by omega)).up (by omega)⟩, ⟨t, tp, hT.fr fun a ha => f a (by omega) (by omega) (by omega) (by omega) (by omega) (by omega)⟩, hF.fr fun a ha => f a (by omega) (by omega) (by omega) (by omega) (by omega) (by omega), e2.trans ((f2 14000 (by omega)).trans e1).symm⟩
  unfold PJ
  rw [vw_of (σ := σ1) fun a q1 q2 q3 => f2 a (by omega), j2]
  exact j3

theorem st_settles (hW : Wi w) : ST l w N qX11_settles qX12_settles 7 8 [] := fun σ h hN9 => by
  obtain ⟨⟨μ, nt, g, hM⟩, hJ, ⟨mk, M, T, G, hK⟩, ⟨t9, tp, hT⟩, hF, hS⟩ := id h
  have hv0 := vb_e 0
  have hv1 := vb_e 1
  have hn := hM.2.2.2.2.1
  refine ⟨_, _, p_settles hW  nt g μ _ hM.2.1 hM.2.2.1 rfl hM.2.2.2.2.2.2.2 hJ hM.2.2.2.1 (by omega) hM.2.2.2.2.2.2.1, fun σ1 h1 => ?_⟩
  obtain ⟨m1, m2⟩ := hM.ref (σ1 := σ1) fun a ha => h1.2.2 a (by omega)
  exact ⟨_, q_settles hW  nt g μ m1 hM.2.2.1 hM.2.2.2.1 (by omega) m2, fun σ2 h2 => LX.paper h hM h1.1 h1.2.1 h1.2.2 h2.2.1 h2.1 h2.2.2.1 h2.2.2.2⟩

theorem st_mends (hW : Wi w) (i : Int32) : ST l w N qX11_mends qX12_mends 7 8 [.int i] := fun σ h hN9 => by
  obtain ⟨⟨μ, nt, g, hM⟩, hJ, ⟨mk, M, T, G, hK⟩, ⟨t9, tp, hT⟩, hF, hS⟩ := id h
  have hv0 := vb_e 0
  have hv1 := vb_e 1
  have hn := hM.2.2.2.2.1
  refine ⟨_, _, p_mends hW i nt g μ _ hM.2.1 hM.2.2.1 rfl hM.2.2.2.2.2.2.2 hJ hM.2.2.2.1 (by omega) hM.2.2.2.2.2.2.1, fun σ1 h1 => ?_⟩
  obtain ⟨m1, m2⟩ := hM.ref (σ1 := σ1) fun a ha => h1.2.2 a (by omega)
  exact ⟨_, q_mends hW i nt g μ m1 hM.2.2.1 hM.2.2.2.1 (by omega) m2, fun σ2 h2 => LX.paper h hM h1.1 h1.2.1 h1.2.2 h2.2.1 h2.1 h2.2.2.1 h2.2.2.2⟩

theorem st_bestWill (hW : Wi w) (i : Int32) : ST l w N qX11_bestWill qX12_bestWill 5 5 [.int i] := fun σ h hN9 => by
  obtain ⟨⟨μ, nt, g, hM⟩, hJ, ⟨mk, M, T, G, hK⟩, ⟨t9, tp, hT⟩, hF, hS⟩ := id h
  have hv0 := vb_e 0
  have hv1 := vb_e 1
  refine ⟨_, _, p_bestWill hW i nt g μ _ hM.2.1 hM.2.2.1 rfl hM.2.2.2.2.2.2.2 hJ hM.2.2.2.2.2.2.1, fun σ1 h1 => ?_⟩
  obtain ⟨m1, m2⟩ := hM.ref (σ1 := σ1) fun a ha => h1.2.2 a (by omega)
  exact ⟨_, q_bestWill hW i μ m1 hM.2.2.1, fun σ2 h2 => LX.paper h hM h1.1 h1.2.1 h1.2.2 h2.2.1 h2.1 (m2.fr fun a ha => h2.2.2 a (by omega)) (fun a ha => h2.2.2 a (by omega))⟩

def Gd (μ' μ : Nat → Int32) : Prop := MI μ' ∧ μ' 7 = μ 7 ∧ jz μ'
theorem gd_pk {S : Nat} {a b : Nat → Int32} (hb : MI b) (jb : jz b) (h : S = 0 → Gd a b) : Gd (pk0 S a b) b := by
  unfold pk0
  by_cases c : S = 0
  · rw [if_pos c]; exact h c
  · rw [if_neg c]; exact ⟨hb, rfl, jb⟩
theorem gd_up {μ : Nat → Int32} {a : Nat} {v : Int32} (jb : jz μ) (h : MI (upd μ a v)) (ha : a < 7 ∨ 16 ≤ a) : Gd (upd μ a v) μ := ⟨h, upd_ne (by omega), up_z jb (by omega)⟩
theorem LX.mut {σ σ1 σ2 : Mem} {S : Int32} {μ μ' : Nat → Int32} {nt : Nat} {g : Nat → Nat → Int32} (h : LX N σ) (hM : ME σ N μ nt g) (hG : Gd μ' μ) (v1 : vw (vb 0) σ1 = μ') (e1 : σ1 14000 = S) (f1 : ∀ a, ((a < 10000 ∨ 10464 ≤ a) ∧ a ≠ 14000) → σ1 a = σ a) (v2 : vw 0 σ2 = μ') (e2 : σ2 4000 = S) (f2 : ∀ a, (464 ≤ a ∧ a ≠ 4000 ∨ a = 10) → σ2 a = σ1 a) : LX (N + 1600) σ2 := by
  obtain ⟨-, hJ, ⟨mk, M, T, G, hK⟩, ⟨t, tp, hT⟩, hF, hS⟩ := h
  have e0 := vb_e 0
  have f : ∀ a, (464 ≤ a ∨ a = 10) → a ≠ 4000 → a ≠ 14000 → (a < 10000 ∨ 10464 ≤ a) → σ2 a = σ a := fun a q0 q3 q4 q5 => (f2 a (by omega)).trans (f1 a (by omega))
  obtain ⟨m1, m2, m3, m4, m5, m6, m7, m8⟩ := hM
  exact ⟨⟨μ', nt, g, v2, (vw_of fun a q1 q2 q3 => f2 a (by omega)).trans v1, hG.1, hG.2.1.trans m4, by omega, m6.fr fun a ha => f a (by omega) (by omega) (by omega) (by omega), m7.fr fun a q1 q2 => f a (by omega) (by omega) (by omega) (by omega), hG.2.2⟩, hJ.fr fun a q1 q2 => f a (by omega) (by omega) (by omega) (by omega), ⟨mk, M, T, G, (hK.fr fun a ha => f a (by omega) (by omega) (by omega) (by omega)).up (by omega)⟩, ⟨t, tp, hT.fr fun a ha => f a (by omega) (by omega) (by omega) (by omega)⟩, hF.fr fun a ha => f a (by omega) (by omega) (by omega) (by omega), e2.trans ((f2 14000 (by omega)).trans e1).symm⟩

theorem gd_tk {μ : Nat → Int32} {k n : Nat} {z : Int32} (hI : MI μ) (jb : jz μ) (h : MI (tkS μ k n z)) : Gd (tkS μ k n z) μ := by
  refine ⟨h, ?_, ?_⟩
  · unfold tkS
    split
    · repeat rw [upd_ne (by omega)]
    · repeat rw [upd_ne (by omega)]
  · intro a h1 h2
    unfold tkS
    split
    · repeat rw [upd_ne (by omega)]
      exact jb a h1 h2
    · repeat rw [upd_ne (by omega)]
      exact jb a h1 h2
theorem rg_Nn {x : Int32} {a n : Nat} (ha : a < 2 ^ 31) (hn : n < 2 ^ 31) (h : rg x (nI a) (nI n) = 0) : x = nI (toN x) ∧ a ≤ toN x ∧ toN x ≤ n := by
  have h0 : rg x (nI 0) (nI n) = 0 := by
    unfold rg at h ⊢
    split at h
    · rename_i c
      simp only [Bool.and_eq_true, decide_eq_true_eq] at c
      have q : nI 0 ≤ x := Int32.le_trans ((nI_leq (a := 0) (b := a) (by decide) ha).mpr (Nat.zero_le _)) c.1
      rw [decide_eq_true q, decide_eq_true c.2]
      rfl
    · cases h
  obtain ⟨e, h2⟩ := rg_N hn h0
  refine ⟨e, ?_, h2⟩
  unfold rg at h
  split at h
  · rename_i c
    simp only [Bool.and_eq_true, decide_eq_true_eq] at c
    have c1 := c.1
    rw [e] at c1
    exact (nI_leq ha (by omega)).mp c1
  · cases h
theorem gd_set {μ : Nat → Int32} {wt mc : Int32} (hI : MI μ) (jb : jz μ) (h1 : rg wt (nI 0) (nI 3) = 0) (h2 : sgS μ wt mc = 0) : Gd (upd μ (3 + toN wt) mc) μ := by
  obtain ⟨ew, hw9⟩ := rg_N (by decide) h1
  have l5 := mb_5 hI
  have l6 := mb_6 hI
  refine gd_up jb ?_ (by omega)
  have hc : toN wt = 0 ∨ toN wt = 1 ∨ toN wt = 2 ∨ toN wt = 3 := by omega
  rcases hc with q | q | q | q
  · have e : wt = nI 0 := by rw [ew, q]
    have e2 : sgS μ wt mc = rg mc (nI 1) (nI 9) := sg_0 e
    rw [e2] at h2
    obtain ⟨em, k1, k2⟩ := rg_Nn (by decide) (by decide) h2
    rw [q, em]
    exact ev_mi hI k1 k2
  · have e : wt = nI 1 := by rw [ew, q]
    have e2 : sgS μ wt mc = rg mc (nI 1) (nI 99) := sg_1 e
    rw [e2] at h2
    obtain ⟨em, k1, k2⟩ := rg_Nn (by decide) (by decide) h2
    rw [q, em]
    exact ho_mi hI k1 k2
  · have e : wt = nI 2 := by rw [ew, q]
    have e2 : sgS μ wt mc = rg mc (nI (max 1 (nA μ 6))) (nI 999) := sg_2 e
    rw [e2] at h2
    obtain ⟨em, k1, k2⟩ := rg_Nn (by omega) (by decide) h2
    rw [q, em]
    exact rf_mi hI (Or.inl rfl) k2 (fun _ => ⟨by omega, by omega⟩) (fun z => by omega)
  · have e : wt = nI 3 := by rw [ew, q]
    have e2 : sgS μ wt mc = rg mc (nI 0) (nI (nA μ 5)) := sg_3 (by rw [e]; decide) (by rw [e]; decide) (by rw [e]; decide)
    rw [e2] at h2
    obtain ⟨em, k1, k2⟩ := rg_Nn (by decide) (by omega) h2
    rw [q, em]
    exact rf_mi hI (Or.inr rfl) (by omega) (fun z => by omega) (fun _ => k2)

theorem st_will (hW : Wi w) (i : Int32) (wl : Int32) : ST l w N qX11_will qX12_will 2 2 [.int i, .int wl] := fun σ h hN9 => by
  obtain ⟨⟨μ, nt, g, hM⟩, hJ, ⟨mk, M, T, G, hK⟩, ⟨t9, tp, hT⟩, hF, hS⟩ := id h
  have hv0 := vb_e 0
  have hv1 := vb_e 1
  have hI := hM.2.2.1
  have h8 := mi_8 hI
  have jz9 := hM.2.2.2.2.2.2.2
  refine ⟨_, _, p_will hW i wl μ hM.2.1 hI, fun σ1 h1 => ?_⟩
  obtain ⟨m1, m2⟩ := hM.ref (σ1 := σ1) fun a ha => h1.2.2 a (by omega)
  refine ⟨_, q_will hW i wl μ m1 hI, fun σ2 h2 => LX.mut h hM (gd_pk hI jz9 fun c => ?_) h1.1 h1.2.1 h1.2.2 h2.1 h2.2.1 h2.2.2⟩
  · obtain ⟨s1, s2⟩ := fo_0 c
    obtain ⟨ew, hw9⟩ := rg_N (by decide) s1
    obtain ⟨ei, hi9⟩ := nB_N hI (ns_0 s2)
    exact gd_up jz9 (wi_mi hI (by omega) (by omega)) (by omega)

theorem st_jam (hW : Wi w) (i : Int32) (j : Int32) (t : Int32) : ST l w N qX11_jam qX12_jam 2 3 [.int i, .int j, .int t] := fun σ h hN9 => by
  obtain ⟨⟨μ, nt, g, hM⟩, hJ, ⟨mk, M, T, G, hK⟩, ⟨t9, tp, hT⟩, hF, hS⟩ := id h
  have hv0 := vb_e 0
  have hv1 := vb_e 1
  have hI := hM.2.2.1
  have h8 := mi_8 hI
  have jz9 := hM.2.2.2.2.2.2.2
  refine ⟨_, _, p_jam hW i j t μ hM.2.1 hI, fun σ1 h1 => ?_⟩
  obtain ⟨m1, m2⟩ := hM.ref (σ1 := σ1) fun a ha => h1.2.2 a (by omega)
  refine ⟨_, q_jam hW i j t μ m1 hI, fun σ2 h2 => LX.mut h hM (gd_pk hI jz9 fun c => ?_) h1.1 h1.2.1 h1.2.2 h2.1 h2.2.1 h2.2.2⟩
  · obtain ⟨s1, s2⟩ := fo_0 c
    obtain ⟨ew, hw9⟩ := rg_N (by decide) s1
    have h0 := ps_0 s2
    obtain ⟨ei, hi9⟩ := nB_N hI h0.1
    obtain ⟨ej, hj9⟩ := nB_N hI h0.2.1
    exact gd_up jz9 (ja_mi hI (by omega) (by omega) (by omega)) (by omega)

theorem st_ear (hW : Wi w) (i : Int32) (j : Int32) (on : Bool) : ST l w N qX11_ear qX12_ear 2 3 [.int i, .int j, .int (b2i on)] := fun σ h hN9 => by
  obtain ⟨⟨μ, nt, g, hM⟩, hJ, ⟨mk, M, T, G, hK⟩, ⟨t9, tp, hT⟩, hF, hS⟩ := id h
  have hv0 := vb_e 0
  have hv1 := vb_e 1
  have hI := hM.2.2.1
  have h8 := mi_8 hI
  have jz9 := hM.2.2.2.2.2.2.2
  refine ⟨_, _, p_ear hW i j on μ hM.2.1 hI, fun σ1 h1 => ?_⟩
  obtain ⟨m1, m2⟩ := hM.ref (σ1 := σ1) fun a ha => h1.2.2 a (by omega)
  refine ⟨_, q_ear hW i j on μ m1 hI, fun σ2 h2 => LX.mut h hM (gd_pk hI jz9 fun c => ?_) h1.1 h1.2.1 h1.2.2 h2.1 h2.2.1 h2.2.2⟩
  · obtain ⟨s1, s2⟩ := fo_0 c
    have h0 := ps_0 s1
    obtain ⟨ei, hi9⟩ := nB_N hI h0.1
    obtain ⟨ej, hj9⟩ := nB_N hI h0.2.1
    exact gd_up jz9 (he_mi hI (by omega) (by omega) (eN_ne ei ej h0.2.2)) (by omega)

theorem st_turn (hW : Wi w) (i : Int32) (on : Bool) : ST l w N qX11_turn qX12_turn 2 2 [.int i, .int (b2i on)] := fun σ h hN9 => by
  obtain ⟨⟨μ, nt, g, hM⟩, hJ, ⟨mk, M, T, G, hK⟩, ⟨t9, tp, hT⟩, hF, hS⟩ := id h
  have hv0 := vb_e 0
  have hv1 := vb_e 1
  have hI := hM.2.2.1
  have h8 := mi_8 hI
  have jz9 := hM.2.2.2.2.2.2.2
  refine ⟨_, _, p_turn hW i on μ hM.2.1 hI, fun σ1 h1 => ?_⟩
  obtain ⟨m1, m2⟩ := hM.ref (σ1 := σ1) fun a ha => h1.2.2 a (by omega)
  refine ⟨_, q_turn hW i on μ m1 hI, fun σ2 h2 => LX.mut h hM (gd_pk hI jz9 fun c => ?_) h1.1 h1.2.1 h1.2.2 h2.1 h2.2.1 h2.2.2⟩
  · obtain ⟨s1, s2⟩ := fo_0 c
    obtain ⟨ei, hi9⟩ := nB_N hI (ns_0 s1)
    exact gd_up jz9 (on_mi hI hi9) (by omega)

theorem st_add (hW : Wi w) (wl : Int32) : ST l w N qX11_add qX12_add 2 2 [.int wl] := fun σ h hN9 => by
  obtain ⟨⟨μ, nt, g, hM⟩, hJ, ⟨mk, M, T, G, hK⟩, ⟨t9, tp, hT⟩, hF, hS⟩ := id h
  have hv0 := vb_e 0
  have hv1 := vb_e 1
  have hI := hM.2.2.1
  have h8 := mi_8 hI
  have jz9 := hM.2.2.2.2.2.2.2
  refine ⟨_, _, p_add hW wl μ hM.2.1 hI, fun σ1 h1 => ?_⟩
  obtain ⟨m1, m2⟩ := hM.ref (σ1 := σ1) fun a ha => h1.2.2 a (by omega)
  refine ⟨_, q_add hW wl μ m1 hI, fun σ2 h2 => LX.mut h hM (gd_pk hI jz9 fun c => ?_) h1.1 h1.2.1 h1.2.2 h2.1 h2.2.1 h2.2.2⟩
  · obtain ⟨s1, s2⟩ := fo_0 c
    obtain ⟨ew, hw9⟩ := rg_N (by decide) s1
    have h8n : nN μ < 8 := if8 s2 h8
    refine ⟨(ad_mi hI h8n (by omega)).1, by rw [upd_ne (by omega), upd_ne (by omega), upd_ne (by omega)], up_z (up_z (up_z jz9 (by omega)) (by omega)) (by omega)⟩

theorem st_echo (hW : Wi w) (i : Int32) (j : Int32) (nm : Int32) (z : Int32) : ST l w N qX11_echo qX12_echo 3 3 [.int i, .int j, .int nm, .int z] := fun σ h hN9 => by
  obtain ⟨⟨μ, nt, g, hM⟩, hJ, ⟨mk, M, T, G, hK⟩, ⟨t9, tp, hT⟩, hF, hS⟩ := id h
  have hv0 := vb_e 0
  have hv1 := vb_e 1
  have hI := hM.2.2.1
  have h8 := mi_8 hI
  have jz9 := hM.2.2.2.2.2.2.2
  refine ⟨_, _, p_echo hW i j nm z μ hM.2.1 hI, fun σ1 h1 => ?_⟩
  obtain ⟨m1, m2⟩ := hM.ref (σ1 := σ1) fun a ha => h1.2.2 a (by omega)
  refine ⟨_, q_echo hW i j nm z μ m1 hI, fun σ2 h2 => LX.mut h hM (gd_pk hI jz9 fun c => ?_) h1.1 h1.2.1 h1.2.2 h2.1 h2.2.1 h2.2.2⟩
  · obtain ⟨s1, s2⟩ := fo_0 c
    obtain ⟨s3, s4⟩ := fo_0 s1
    obtain ⟨s5, s6⟩ := fo_0 s3
    obtain ⟨ew, hw9⟩ := rg_N (by decide) s5
    have h0 := ps_0 s4
    obtain ⟨ei, hi9⟩ := nB_N hI h0.1
    obtain ⟨ej, hj9⟩ := nB_N hI h0.2.1
    exact gd_tk hI jz9 (tk_mi hI (by omega) (by omega) (by omega))

theorem st_set (hW : Wi w) (wt : Int32) (mc : Int32) : ST l w N qX11_set qX12_set 2 1 [.int wt, .int mc] := fun σ h hN9 => by
  obtain ⟨⟨μ, nt, g, hM⟩, hJ, ⟨mk, M, T, G, hK⟩, ⟨t9, tp, hT⟩, hF, hS⟩ := id h
  have hv0 := vb_e 0
  have hv1 := vb_e 1
  have hI := hM.2.2.1
  have h8 := mi_8 hI
  have jz9 := hM.2.2.2.2.2.2.2
  refine ⟨_, _, p_set hW wt mc μ hM.2.1 hI, fun σ1 h1 => ?_⟩
  obtain ⟨m1, m2⟩ := hM.ref (σ1 := σ1) fun a ha => h1.2.2 a (by omega)
  refine ⟨_, q_set hW wt mc μ m1 hI, fun σ2 h2 => LX.mut h hM (gd_pk hI jz9 fun c => ?_) h1.1 h1.2.1 h1.2.2 h2.1 h2.2.1 h2.2.2⟩
  · obtain ⟨s1, s2⟩ := fo_0 c
    exact gd_set hI jz9 s1 s2

theorem tkL_7 {ls n : Nat} {s : TT} (h : MI s.1) (h7 : s.1 7 = nI n) : ∀ m, ∃ n', n' ≤ n + 8 * m ∧ (tkL ls s m).1 7 = nI n'
  | 0 => ⟨n, by omega, h7⟩
  | m + 1 => by
    obtain ⟨n1, k1, k2⟩ := tkL_7 h h7 m
    obtain ⟨n2, k3, k4⟩ := tkF_7 (ls := ls) (tkL_all (ls := ls) h m).1 k2
    exact ⟨n2, by omega, k4⟩
theorem tkL_z {ls : Nat} {s : TT} (h : MI s.1) (jb : jz s.1) : ∀ m, jz (tkL ls s m).1
  | 0 => jb
  | m + 1 => fun a h1 h2 => (tkF_z (tkL_all (ls := ls) h m).1 h1 h2).trans (tkL_z h jb m a h1 h2)
def Gt (N : Nat) (ν : Nat → Int32) (nt : Nat) : Prop := MI ν ∧ ν 7 = nI nt ∧ nt ≤ N + 1600 ∧ jz ν
theorem gt_pk {S ls nt n : Nat} {s : TT} (hI : MI s.1) (jb : jz s.1) (h7 : s.1 7 = nI nt) (hn : nt ≤ N) (hN : N < 2 ^ 29) (h : S = 0 → n ≤ 200) : Gt N (pk0 S (tkL ls s n).1 s.1) (if S = 0 then nA (tkL ls s n).1 7 else nt) := by
  unfold pk0
  by_cases c : S = 0
  · obtain ⟨n1, k1, k2⟩ := tkL_7 (ls := ls) hI h7 n
    have k3 := h c
    rw [if_pos c, if_pos c, nA_nI (by omega) k2]
    exact ⟨(tkL_all hI n).1, k2, by omega, tkL_z hI jb n⟩
  · rw [if_neg c, if_neg c]
    exact ⟨hI, h7, by omega, jb⟩
theorem LX.tick {σ σ1 σ2 : Mem} {S : Int32} {μ ν : Nat → Int32} {nt nt' : Nat} {g g' : Nat → Nat → Int32} (h : LX N σ) (hM : ME σ N μ nt g) (hG : Gt N ν nt') (v1 : vw (vb 0) σ1 = ν) (e1 : σ1 14000 = S) (l1 : LC (vb 0) σ1 nt' g') (f1 : ∀ a, ((a < 10000 ∨ 10528 ≤ a) ∧ a < 14900 ∧ a ≠ 14000) → σ1 a = σ a) (v2 : vw 0 σ2 = ν) (e2 : σ2 4000 = S) (l2 : LR 0 σ2 nt' g') (f2 : ∀ a, (528 ≤ a ∧ (a < 4900 ∨ 6000 ≤ a) ∧ a ≠ 4000) → σ2 a = σ1 a) : LX (N + 1600) σ2 := by
  obtain ⟨-, hJ, ⟨mk, M, T, G, hK⟩, ⟨t, tp, hT⟩, hF, hS⟩ := h
  have e0 := vb_e 0
  have f : ∀ a, 528 ≤ a → (a < 4900 ∨ 6000 ≤ a) → a < 14900 → a ≠ 4000 → a ≠ 14000 → (a < 10000 ∨ 10528 ≤ a) → σ2 a = σ a := fun a q0 q1 q2 q3 q4 q5 => (f2 a (by omega)).trans (f1 a (by omega))
  exact ⟨⟨ν, nt', g', v2, (vw_of fun a q1 q2 q3 => f2 a (by omega)).trans v1, hG.1, hG.2.1, hG.2.2.1, l2, l1.fr fun a q1 q2 => f2 a (by omega), hG.2.2.2⟩, hJ.fr fun a q1 q2 => f a (by omega) (by omega) (by omega) (by omega) (by omega) (by omega), ⟨mk, M, T, G, (hK.fr fun a ha => f a (by omega) (by omega) (by omega) (by omega) (by omega) (by omega)).up (by omega)⟩, ⟨t, tp, hT.fr fun a ha => f a (by omega) (by omega) (by omega) (by omega) (by omega) (by omega)⟩, hF.fr fun a ha => f a (by omega) (by omega) (by omega) (by omega) (by omega) (by omega), e2.trans ((f2 14000 (by omega)).trans e1).symm⟩

theorem st_tick (hW : Wi w) (n : Int32) : ST l w N qX11_tick qX12_tick 6 7 [.int n] := fun σ h hN9 => by
  obtain ⟨⟨μ, nt, g, hM⟩, hJ, ⟨mk, M, T, G, hK⟩, ⟨t9, tp, hT⟩, hF, hS⟩ := id h
  have hv0 := vb_e 0
  have hv1 := vb_e 1
  have hI := hM.2.2.1
  have hn := hM.2.2.2.2.1
  refine ⟨_, _, p_tick hW n nt g μ hM.2.1 hI hM.2.2.2.1 (by omega) hM.2.2.2.2.2.2.1, fun σ1 h1 => ?_⟩
  obtain ⟨m1, m2⟩ := hM.ref (σ1 := σ1) fun a ha => h1.2.2.2 a (by omega)
  refine ⟨_, q_tick hW n nt g μ m1 hI hM.2.2.2.1 (by omega) m2, fun σ2 h2 => LX.tick h hM (gt_pk (s := (μ, 0, nI 0, g)) hI hM.2.2.2.2.2.2.2 hM.2.2.2.1 hn hN9 fun c => ?_) h1.1 h1.2.1 h1.2.2.1 h1.2.2.2 h2.1 h2.2.1 h2.2.2.1 h2.2.2.2⟩
  · exact (rg_N1 (by decide) c).2

theorem st_run (hW : Wi w) (n : Int32) (sd : Int32) (ls : Int32) : ST l w N qX11_run qX12_run 6 7 [.int n, .int sd, .int ls] := fun σ h hN9 => by
  obtain ⟨⟨μ, nt, g, hM⟩, hJ, ⟨mk, M, T, G, hK⟩, ⟨t9, tp, hT⟩, hF, hS⟩ := id h
  have hv0 := vb_e 0
  have hv1 := vb_e 1
  have hI := hM.2.2.1
  have hn := hM.2.2.2.2.1
  refine ⟨_, _, p_run hW n sd ls nt g μ hM.2.1 hI hM.2.2.2.1 (by omega) hM.2.2.2.2.2.2.1, fun σ1 h1 => ?_⟩
  obtain ⟨m1, m2⟩ := hM.ref (σ1 := σ1) fun a ha => h1.2.2.2 a (by omega)
  refine ⟨_, q_run hW n sd ls nt g μ m1 hI hM.2.2.2.1 (by omega) m2, fun σ2 h2 => LX.tick h hM (gt_pk (s := (μ, toN sd, nI 0, g)) hI hM.2.2.2.2.2.2.2 hM.2.2.2.1 hn hN9 fun c => ?_) h1.1 h1.2.1 h1.2.2.1 h1.2.2.2 h2.1 h2.2.1 h2.2.2.1 h2.2.2.2⟩
  · exact (rg_N1 (by decide) (fo_0 (fo_0 c).1).1).2

theorem st_mark (hW : Wi w) : ST l w N qX11_mark qX12_mark 3 1 [] := fun σ h hN9 => by
  obtain ⟨⟨μ, nt, g, hM⟩, hJ, ⟨mk, M, T, G, hK⟩, ⟨t9, tp, hT⟩, hF, hS⟩ := id h
  have hv0 := vb_e 0
  have hv1 := vb_e 1
  obtain ⟨k1, k2, k3, k4, k5, k6⟩ := hK
  obtain ⟨m1, m2, m3, m4, m5, m6, m7, m8⟩ := id hM
  have hv2 := vb_e (2 + mk)
  refine ⟨_, _, p_mark hW (2 + mk) mk nt g μ _ m2 m3 rfl rfl k1 m8 (fun z => k5 mk z) k3 m7, fun σ1 h1 => ?_⟩
  obtain ⟨p1, p2, p3, p4⟩ := h1
  obtain ⟨n1, n2⟩ := hM.ref (σ1 := σ1) fun a ha => p4 a (by omega)
  refine ⟨_, q_mark hW mk nt g μ n1 m3 k1 ((p4 _ (by omega)).trans k2) n2, fun σ2 h2 => ?_⟩
  obtain ⟨r1, r2, r3, r4⟩ := h2
  have f : ∀ a, (a < 1056 + 528 * mk ∨ 1584 + 528 * mk ≤ a) → (a < vb (2 + mk) ∨ vb (2 + mk) + 528 ≤ a) → a ≠ 4000 → a ≠ 4001 → a ≠ 14000 → a ≠ 14001 → σ2 a = σ a := fun a q1 q2 q3 q4 q5 q6 => (r4 a (by omega)).trans (p4 a (by omega))
  have c1 : σ2 14001 = σ1 14001 := r4 _ (by omega)
  refine ⟨⟨μ, nt, g, (hM.fr fun a ha => f a (by omega) (by omega) (by omega) (by omega) (by omega) (by omega)).up (by omega)⟩, hJ.fr fun a q1 q2 => f a (by omega) (by omega) (by omega) (by omega) (by omega) (by omega), ?_, ⟨t9, tp, hT.fr fun a ha => f a (by omega) (by omega) (by omega) (by omega) (by omega) (by omega)⟩, hF.fr fun a ha => f a (by omega) (by omega) (by omega) (by omega) (by omega) (by omega), r1.trans ((r4 14000 (by omega)).trans p1).symm⟩
  by_cases c : mk = 4
  · rw [if_pos c] at p2 p3 r2 r3
    rw [if_neg (by decide)] at p2 r2
    refine ⟨mk, M, T, G, ?_⟩
    have q : MK σ N mk M T G := ⟨k1, k2, k3, k4, k5, k6⟩
    refine ⟨k1, r2, c1.trans p2, fun j hj => (k4 j hj).fr fun a ha => f a (by omega) (by omega) (by omega) (by omega) (by omega) (by omega), fun j hj => ?_, fun j hj => ?_⟩
    · have e1 := vb_e (2 + j)
      rw [vw_of (σ := σ) fun a q1 q2 q3 => f a (by omega) (by omega) (by omega) (by omega) (by omega) (by omega)]
      exact k5 j hj
    · obtain ⟨d1, d2, d3, d4, d5, d6⟩ := k6 j hj
      have e1 := vb_e (2 + j)
      exact ⟨(vw_of fun a q1 q2 q3 => f a (by omega) (by omega) (by omega) (by omega) (by omega) (by omega)).trans d1, (vw_of fun a q1 q2 q3 => f a (by omega) (by omega) (by omega) (by omega) (by omega) (by omega)).trans d2, d3, d4, by omega, d6.fr fun a q1 q2 => f a (by omega) (by omega) (by omega) (by omega) (by omega) (by omega)⟩
  · rw [if_neg c] at p2 p3 r2 r3
    rw [if_pos rfl] at p2 r2
    obtain ⟨p5, p6⟩ := p3 rfl
    obtain ⟨r5, r6⟩ := r3 rfl
    refine ⟨mk + 1, fun j => if j = mk then μ else M j, fun j => if j = mk then nt else T j, fun j => if j = mk then g else G j, by omega, r2, c1.trans p2, fun j hj => ?_, fun j hj => ?_, fun j hj => ?_⟩
    · show LR (1056 + 528 * j) σ2 (if j = mk then nt else T j) (if j = mk then g else G j)
      by_cases z : j = mk
      · rw [if_pos z, if_pos z, z]
        exact r6
      · rw [if_neg z, if_neg z]
        exact (k4 j hj).fr fun a ha => f a (by omega) (by omega) (by omega) (by omega) (by omega) (by omega)
    · have e1 := vb_e (2 + j)
      by_cases z : j = mk
      · subst z
        rw [vw_of (σ := σ1) fun a q1 q2 q3 => r4 a (by omega), p5]
        exact m8
      · rw [vw_of (σ := σ) fun a q1 q2 q3 => f a (by omega) (by omega) (by omega) (by omega) (by omega) (by omega)]
        exact k5 j hj
    · have e1 := vb_e (2 + j)
      show vw (1056 + 528 * j) σ2 = (if j = mk then μ else M j) ∧ vw (vb (2 + j)) σ2 = (if j = mk then μ else M j) ∧ MI (if j = mk then μ else M j) ∧ (if j = mk then μ else M j) 7 = nI (if j = mk then nt else T j) ∧ (if j = mk then nt else T j) ≤ N + 1600 ∧ LC (vb (2 + j)) σ2 (if j = mk then nt else T j) (if j = mk then g else G j)
      by_cases z : j = mk
      · subst z
        rw [if_pos rfl, if_pos rfl, if_pos rfl]
        exact ⟨r5, (vw_of fun a q1 q2 q3 => r4 a (by omega)).trans p5, m3, m4, by omega, p6.fr fun a q1 q2 => r4 a (by omega)⟩
      · obtain ⟨d1, d2, d3, d4, d5, d6⟩ := k6 j (by omega)
        rw [if_neg z, if_neg z, if_neg z]
        exact ⟨(vw_of fun a q1 q2 q3 => f a (by omega) (by omega) (by omega) (by omega) (by omega) (by omega)).trans d1, (vw_of fun a q1 q2 q3 => f a (by omega) (by omega) (by omega) (by omega) (by omega) (by omega)).trans d2, d3, d4, by omega, d6.fr fun a q1 q2 => f a (by omega) (by omega) (by omega) (by omega) (by omega) (by omega)⟩

theorem st_back (hW : Wi w) : ST l w N qX11_back qX12_back 3 1 [] := fun σ h hN9 => by
  obtain ⟨⟨μ, nt, g, hM⟩, hJ, ⟨mk, M, T, G, hK⟩, ⟨t9, tp, hT⟩, hF, hS⟩ := id h
  have hv0 := vb_e 0
  have hv1 := vb_e 1
  obtain ⟨k1, k2, k3, k4, k5, k6⟩ := hK
  obtain ⟨m1, m2, m3, m4, m5, m6, m7, m8⟩ := id hM
  have hv2 := vb_e (2 + (mk - 1))
  obtain ⟨nd, gd, hd⟩ : ∃ nd gd, LC (vb (2 + (mk - 1))) σ nd gd ∧ (mk ≠ 0 → nd = T (mk - 1) ∧ gd = G (mk - 1)) := by
    by_cases c : mk = 0
    · exact ⟨0, g, fun i wq hi => by omega, fun z => absurd c z⟩
    · exact ⟨T (mk - 1), G (mk - 1), (k6 (mk - 1) (by omega)).2.2.2.2.2, fun _ => ⟨rfl, rfl⟩⟩
  refine ⟨_, _, p_back hW (2 + (mk - 1)) mk nt nd g gd μ _ m2 m3 rfl rfl k1 m8 (k5 (mk - 1) (by omega)) k3 m7 hd.1, fun σ1 h1 => ?_⟩
  obtain ⟨p1, p2, p3, p4, p5⟩ := h1
  obtain ⟨n1, n2⟩ := hM.ref (σ1 := σ1) fun a ha => p5 a (by omega)
  refine ⟨_, q_back hW mk nt (T (mk - 1)) g (G (mk - 1)) μ (vw (1056 + 528 * (mk - 1)) σ) n1 m3 k1 ((p5 _ (by omega)).trans k2) n2 (vw_of fun a q1 q2 q3 => p5 a (by omega)) ((k4 (mk - 1) (by omega)).fr fun a ha => p5 a (by omega)), fun σ2 h2 => ?_⟩
  obtain ⟨r1, r2, r3, r4, r5⟩ := h2
  have f : ∀ a, 528 ≤ a → (a < 10000 ∨ 10528 ≤ a) → a ≠ 4000 → a ≠ 4001 → a ≠ 14000 → a ≠ 14001 → σ2 a = σ a := fun a q1 q2 q3 q4 q5 q6 => (r5 a (by omega)).trans (p5 a (by omega))
  refine ⟨?_, hJ.fr fun a q1 q2 => f a (by omega) (by omega) (by omega) (by omega) (by omega) (by omega), ⟨mk - 1, M, T, G, by omega, r3, (r5 _ (by omega)).trans p3, fun j hj => (k4 j hj).fr fun a ha => f a (by omega) (by omega) (by omega) (by omega) (by omega) (by omega), fun j hj => ?_, fun j hj => ?_⟩, ⟨t9, tp, hT.fr fun a ha => f a (by omega) (by omega) (by omega) (by omega) (by omega) (by omega)⟩, hF.fr fun a ha => f a (by omega) (by omega) (by omega) (by omega) (by omega) (by omega), r2.trans ((r5 14000 (by omega)).trans p2).symm⟩
  · by_cases c : mk = 0
    · rw [if_pos c] at p1 p4 r1 r4
      rw [if_neg (by decide), if_neg (by decide)] at p4 r4
      exact ⟨μ, nt, g, r1, (vw_of fun a q1 q2 q3 => r5 a (by omega)).trans p1, m3, m4, by omega, r4, p4.fr fun a q1 q2 => r5 a (by omega), m8⟩
    · obtain ⟨d1, d2, d3, d4, d5, d6⟩ := k6 (mk - 1) (by omega)
      obtain ⟨e1, e2⟩ := hd.2 c
      rw [if_neg c] at p1 p4 r1 r4
      rw [if_pos rfl, if_pos rfl] at p4 r4
      rw [e1, e2] at p4
      rw [d2] at p1
      rw [d1] at r1
      have jm := k5 (mk - 1) (by omega)
      rw [d2] at jm
      exact ⟨M (mk - 1), T (mk - 1), G (mk - 1), r1, (vw_of fun a q1 q2 q3 => r5 a (by omega)).trans p1, d3, d4, by omega, r4, p4.fr fun a q1 q2 => r5 a (by omega), jm⟩
  · have e1 := vb_e (2 + j)
    rw [vw_of (σ := σ) fun a q1 q2 q3 => f a (by omega) (by omega) (by omega) (by omega) (by omega) (by omega)]
    exact k5 j hj
  · obtain ⟨d1, d2, d3, d4, d5, d6⟩ := k6 j (by omega)
    have e1 := vb_e (2 + j)
    exact ⟨(vw_of fun a q1 q2 q3 => f a (by omega) (by omega) (by omega) (by omega) (by omega) (by omega)).trans d1, (vw_of fun a q1 q2 q3 => f a (by omega) (by omega) (by omega) (by omega) (by omega) (by omega)).trans d2, d3, d4, by omega, d6.fr fun a q1 q2 => f a (by omega) (by omega) (by omega) (by omega) (by omega) (by omega)⟩

theorem st_feed (hW : Wi w) (a : Int32) (b : Int32) (c : Int32) (d : Int32) (e : Int32) : ST l w N qX11_feed qX12_feed 1 1 [.int a, .int b, .int c, .int d, .int e] := fun σ h hN9 => by
  obtain ⟨⟨μ, nt, g, hM⟩, hJ, ⟨mk, M, T, G, hK⟩, ⟨t9, tp, hT⟩, hF, hS⟩ := id h
  have hv0 := vb_e 0
  have hv1 := vb_e 1
  obtain ⟨t1, t2, t3, t4, t5⟩ := hT
  refine ⟨_, _, p_feed hW a b c d e t9 tp t1 t3 t5, fun σ1 h1 => ?_⟩
  obtain ⟨p1, p2, p3⟩ := h1
  refine ⟨_, q_feed hW a b c d e t9 tp t1 ((p3 _ (by omega)).trans t2) (t4.fr fun a q1 q2 => p3 a (by omega)), fun σ2 h2 => ?_⟩
  obtain ⟨r1, r2, r3⟩ := h2
  have f : ∀ a, (a < 4100 ∨ 4500 ≤ a) → a ≠ 4002 → (a < 14100 ∨ 14500 ≤ a) → a ≠ 14002 → σ2 a = σ a := fun a q1 q2 q3 q4 => (r3 a (by omega)).trans (p3 a (by omega))
  have hb : tpN t9 ≤ 400 := by unfold tpN; split <;> omega
  exact ⟨⟨μ, nt, g, (hM.fr fun a ha => f a (by omega) (by omega) (by omega) (by omega)).up (by omega)⟩, hJ.fr fun a q1 q2 => f a (by omega) (by omega) (by omega) (by omega), ⟨mk, M, T, G, (hK.fr fun a ha => f a (by omega) (by omega) (by omega) (by omega)).up (by omega)⟩, ⟨tpN t9, tpT tp t9 a b c d e, hb, r1, (r3 _ (by omega)).trans p1, r2, p2.fr fun a q1 q2 => r3 a (by omega)⟩, hF.fr fun a ha => f a (by omega) (by omega) (by omega) (by omega), by rw [f 4000 (by omega) (by omega) (by omega) (by omega), f 14000 (by omega) (by omega) (by omega) (by omega)]; exact hS⟩

theorem nod_lo {μ : Nat → Int32} {a : Nat} (h : 7 ≤ a ∧ a < 16) : ∀ n, nod9 μ n a = μ a
  | 0 => rfl
  | n + 1 => by
    show adn (nod9 μ n) a = μ a
    unfold adn
    rw [upd_ne (by omega), upd_ne (by omega), upd_ne (by omega)]
    exact nod_lo h n
theorem EF_lo {μ : Nat → Int32} {k p q r a : Nat} (h : 7 ≤ a ∧ a < 16) : EF μ k p q r a = μ a := by
  unfold EF
  repeat' split
  · exact nod_lo h p
  · rw [upd_ne (by omega)]
  · rw [upd_ne (by omega), upd_ne (by omega)]
  · rw [upd_ne (by omega)]
  · rw [upd_ne (by omega)]
  · rw [upd_ne (by omega)]
  · rw [upd_ne (by omega)]
  · rw [upd_ne (by omega)]
theorem ln_lo {x : Nat → Nat} {L a : Nat} {s : PS} (h : 7 ≤ a ∧ a < 16) : (ln9 x L s).2.2.1 a = s.2.2.1 a := by
  by_cases c : txK x L s.2.1 = 1
  · cases q : txW x L s.2.1 with
    | none => rw [ln9_k1 c q]
    | some k =>
      by_cases c2 : told9 s.2.2.2.1 s.2.2.2.2 k = true
      · rw [ln9_k2 c q c2]
      · rw [ln9_k3 c q c2]
        by_cases c3 : (ar9 x L s.2.2.1 k (na9 k) 0 0 (txE x L s.2.1)).1 = 0
        · rw [lk9_y c3]; exact EF_lo h
        · rw [lk9_n c3]
  · rw [ln9_k0 c]
theorem tx_lo {x : Nat → Nat} {L a : Nat} (h : 7 ≤ a ∧ a < 16) : ∀ n, (tx9 x L n).2.2.1 a = nI 0
  | 0 => bgP_0 (by omega)
  | n + 1 => by
    have e1 : tx9 x L (n + 1) = nx9 x L (tx9 x L n) := rfl
    rw [e1]
    unfold nx9
    split
    · rw [ln_lo h]; exact tx_lo h n
    · exact tx_lo h n

theorem st_load (hW : Wi w) (n : Int32) : ST l w N qX11_load qX12_load 8 6 [.int n] := fun σ h hN9 => by
  obtain ⟨⟨μ, nt, g, hM⟩, hJ, ⟨mk, M, T, G, hK⟩, ⟨t9, tp, hT⟩, hF, hS⟩ := id h
  have hv0 := vb_e 0
  have hv1 := vb_e 1
  obtain ⟨t1, t2, t3, t4, t5⟩ := hT
  obtain ⟨m1, m2, m3, m4, m5, m6, m7, m8⟩ := id hM
  obtain ⟨F, hFe⟩ : ∃ F : PS, F = tx9 tp (toN n) 400 := ⟨_, rfl⟩
  have hM9 : F.1 = 0 → MI F.2.2.1 := by rw [hFe]; exact fun z => ((tx9_ok (x := tp) (L := toN n) 400).2.2 z).1
  have hlo : ∀ a, 7 ≤ a → a < 16 → F.2.2.1 a = nI 0 := by rw [hFe]; exact fun a q1 q2 => tx_lo ⟨q1, q2⟩ 400
  refine ⟨_, _, p_load hW n F t9 nt tp (σ 14003) (σ 14004) g μ _ m2 m3 rfl m8 hJ t1 hFe t3 rfl rfl t5 m7, fun σ1 h1 => ?_⟩
  obtain ⟨p1, p2, p3, p4, p5, p6, p7, p8, p9⟩ := h1
  obtain ⟨n1, n2⟩ := hM.ref (σ1 := σ1) fun a ha => p9 a (by omega)
  refine ⟨_, q_load hW n F t9 nt tp (σ 14003) (σ 14004) g μ n1 m3 t1 hFe ((p9 _ (by omega)).trans t2) ((p9 _ (by omega)).trans hF.1) ((p9 _ (by omega)).trans hF.2) (t4.fr fun a q1 q2 => p9 a (by omega)) n2, fun σ2 h2 => ?_⟩
  obtain ⟨r1, r2, r3, r4, r5, r6, r7, r8⟩ := h2
  have f : ∀ a, 1056 ≤ a → a ≠ 4000 → a ≠ 4002 → a ≠ 4003 → a ≠ 4004 → (a < 4900 ∨ 6000 ≤ a) → (a < 10000 ∨ 11056 ≤ a) → a < 14900 → a ≠ 14000 → a ≠ 14002 → a ≠ 14003 → a ≠ 14004 → σ2 a = σ a := fun a q0 q1 q2 q3 q4 q5 q6 q7 q8 q9 qa qb => (r8 a (by omega)).trans (p9 a (by omega))
  obtain ⟨ν, j1, j2⟩ := p8
  have hG : MI (pk0 (fo (rg n (nI 0) (nI t9)) (if F.1 = 0 then 0 else 9)) F.2.2.1 μ) ∧ pk0 (fo (rg n (nI 0) (nI t9)) (if F.1 = 0 then 0 else 9)) F.2.2.1 μ 7 = nI (if fo (rg n (nI 0) (nI t9)) (if F.1 = 0 then 0 else 9) = 0 then 0 else nt) ∧ (if fo (rg n (nI 0) (nI t9)) (if F.1 = 0 then 0 else 9) = 0 then 0 else nt) ≤ N + 1600 ∧ jz (pk0 (fo (rg n (nI 0) (nI t9)) (if F.1 = 0 then 0 else 9)) F.2.2.1 μ) := by
    unfold pk0
    by_cases c : fo (rg n (nI 0) (nI t9)) (if F.1 = 0 then 0 else 9) = 0
    · have c2 : F.1 = 0 := by
        have q := (fo_0 c).2
        by_cases z : F.1 = 0
        · exact z
        · rw [if_neg z] at q; cases q
      rw [if_pos c, if_pos c]
      exact ⟨hM9 c2, hlo 7 (by omega) (by omega), by omega, fun a q1 q2 => hlo a (by omega) (by omega)⟩
    · rw [if_neg c, if_neg c]
      exact ⟨m3, m4, by omega, m8⟩
  have hb : (if rg n (nI 0) (nI t9) = 0 then 0 else t9) ≤ 400 := by split <;> omega
  refine ⟨⟨_, _, g, r1, (vw_of fun a q1 q2 q3 => r8 a (by omega)).trans p1, hG.1, hG.2.1, hG.2.2.1, r7, p7.fr fun a q1 q2 => r8 a (by omega), hG.2.2.2⟩, ?_, ⟨mk, M, T, G, (hK.fr fun a ha => f a (by omega) (by omega) (by omega) (by omega) (by omega) (by omega) (by omega) (by omega) (by omega) (by omega) (by omega) (by omega)).up (by omega)⟩, ⟨_, tp, hb, r3, (r8 _ (by omega)).trans p3, r6, p6.fr fun a q1 q2 => r8 a (by omega)⟩, ⟨r4.trans ((r8 14003 (by omega)).trans p4).symm, r5.trans ((r8 14004 (by omega)).trans p5).symm⟩, r2.trans ((r8 14000 (by omega)).trans p2).symm⟩
  unfold PJ
  rw [vw_of (σ := σ1) fun a q1 q2 q3 => r8 a (by omega), j1]
  exact j2
end SS
