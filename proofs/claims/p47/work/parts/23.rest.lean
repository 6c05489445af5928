/-! texts that the code holds as constants: their lengths, their signs -/
theorem c16 : ∀ k, k < 128 → ((nI k).toUInt32 % 65536).toInt32 = nI k := by decide +kernel
/-! the text: signs, tokens, lines -/
def by8 (k : Nat) : Int32 := (Int8.ofNat k).toInt32
def leC (c : Nat) : Bool := decide (97 ≤ c) && decide (c ≤ 122)
def dgC (c : Nat) : Bool := decide (48 ≤ c) && decide (c ≤ 57)
def blC (c : Nat) : Bool := decide (c = 32) || decide (c = 10)
def TX (b : Nat) (σ : Mem) (L : Nat) (x : Nat → Nat) : Prop := ∀ k, k < L → x k < 256 ∧ σ (b + k) = by8 (x k)
theorem TX.fr {b L : Nat} {x : Nat → Nat} {σ σ' : Mem} (h : TX b σ L x) (f : ∀ a, b ≤ a → a < b + L → σ' a = σ a) : TX b σ' L x := fun k hk => ⟨(h k hk).1, by rw [f _ (by omega) (by omega)]; exact (h k hk).2⟩
def txr (p : Nat → Bool) : Nat → Nat → Nat
  | 0, e => e
  | n + 1, e => if p e = true then txr p n (e + 1) else e
def rnx (p : Nat → Bool) (L e : Nat) : Nat := txr p (L - e) e
def txS (x : Nat → Nat) (L e : Nat) : Nat := rnx (fun k => blC (x k)) L e
def txE (x : Nat → Nat) (L e : Nat) : Nat :=
  if L ≤ txS x L e then txS x L e else if leC (x (txS x L e)) = true then rnx (fun k => leC (x k)) L (txS x L e) else
  if dgC (x (txS x L e)) = true then rnx (fun k => dgC (x k)) L (txS x L e) else txS x L e + 1
def txK (x : Nat → Nat) (L e : Nat) : Nat :=
  if L ≤ txS x L e then 0 else if leC (x (txS x L e)) = true then 1 else
  if dgC (x (txS x L e)) = true then (if txE x L e - txS x L e ≤ 3 then 2 else 4) else if x (txS x L e) = 59 then 3 else 4
def txD (x : Nat → Nat) (s : Nat) : Nat → Nat
  | 0 => 0
  | n + 1 => min 9999 (10 * txD x s n + (x (s + n) - 48))
def txV (x : Nat → Nat) (L e : Nat) : Nat := txD x (txS x L e) (txE x L e - txS x L e)
def adn (ν : Nat → Int32) : Nat → Int32 := upd (upd (upd ν (16 + nN ν) (nI 3)) 1 (ν 1 ||| bt1 (nN ν))) 0 (nI (nN ν + 1))
def nod9 (μ : Nat → Int32) : Nat → Nat → Int32
  | 0 => μ
  | n + 1 => adn (nod9 μ n)
def EF (μ : Nat → Int32) (k a b c : Nat) : Nat → Int32 :=
  if k = 0 then nod9 μ a else if k = 1 then upd μ (16 + a) (nI b)
  else if k = 2 then upd (upd μ (24 + a) (wth (μ (24 + a)) b true)) (24 + b) (wth (μ (24 + b)) a true)
  else if k = 3 then upd μ (24 + b) (wth (μ (24 + b)) a true) else if k = 4 then upd μ 1 (wth (μ 1) a false)
  else if k = 5 then upd μ 3 (nI a) else if k = 6 then upd μ 4 (nI a) else upd μ (208 + (8 * a + b)) (nI c)
theorem wi_mi {μ : Nat → Int32} {a b : Nat} (h : MI μ) (ha : a < 8) (hb : b < 8) : MI (upd μ (16 + a) (nI b)) := mi_upd h (by omega) (by omega) (pw_num (by rw [nb16 ha]; exact hb) (by omega) (by omega))
theorem pw_24 {N a : Nat} {x : Int32} (h1 : 24 ≤ a ∧ a < 32) (h2 : tb x (a - 24) = false) : PW N a x := pw_set (Or.inl h1) (fun _ => h2) (fun q1 => by omega) (fun _ q => by omega)
theorem pw_1 {N : Nat} {x : Int32} (h : sb N x) : PW N 1 x := ⟨fun q => absurd (show nb 1 = 0 by decide) q, fun q => by omega, fun q => by omega, fun q => by omega, fun _ => h, fun q => by omega, fun q => by omega, fun q => by omega⟩
theorem he_mi {μ : Nat → Int32} {a b : Nat} {p : Bool} (h : MI μ) (ha : a < 8) (hb : b < 8) (hab : a ≠ b) : MI (upd μ (24 + b) (wth (μ (24 + b)) a p)) := mi_upd h (by omega) (by omega) (pw_24 (by omega) (by
  rw [show 24 + b - 24 = b from by omega, tb_wth (by omega) (by omega), if_neg (Ne.symm hab)]
  exact (mi_self h hb).1))
theorem on_mi {μ : Nat → Int32} {a : Nat} {p : Bool} (h : MI μ) (ha : a < nN μ) : MI (upd μ 1 (wth (μ 1) a p)) := mi_upd h (by omega) (by omega) (pw_1 (sb_wth (ms_on h) ha (by have := mi_8 h; omega)))
section T9
variable {x : Nat → Nat} {L : Nat}
theorem bg_mi : MI bgP := by
  have z : ∀ a, a < 3 ∨ 6 < a → bgP a = nI 0 := fun a ha => bgP_0 ha
  have n0 : nN bgP = 0 := by
    show (bgP 0).toNatClampNeg = 0
    rw [z 0 (by omega)]
    exact nI_clamp (by decide)
  refine mi_of (by rw [n0]; exact z 0 (by omega)) (by omega) (by rw [nA_nI (n := 300) (by decide) bgP_6, nA_nI (n := 700) (by decide) bgP_5]; decide) fun a ha => ?_
  by_cases c : a < 3 ∨ 6 < a
  · rw [z a c]
    refine ⟨fun q => ⟨0, by omega, rfl⟩, fun q1 q2 => by omega, fun _ _ => tb_n0 _, fun _ _ => ⟨tb_n0 _, sb_0⟩, fun _ => sb_0, fun _ _ => sb_0, fun _ _ => sb_0, fun _ _ _ => rfl⟩
  · have : a = 3 ∨ a = 4 ∨ a = 5 ∨ a = 6 := by omega
    rcases this with rfl | rfl | rfl | rfl
    · rw [bgP_3]; exact pw_num (by decide) (by omega) (by omega)
    · rw [bgP_4]; exact pw_num (by decide) (by omega) (by omega)
    · rw [bgP_5]; exact pw_num (by decide) (by omega) (by omega)
    · rw [bgP_6]; exact pw_num (by decide) (by omega) (by omega)
end T9
/-! the reference's tokens -/
def VL (σ : Mem) (x : Nat → Nat) (L e : Nat) : Prop := txK x L e = 2 → σ 5008 = nI (txV x L e)
theorem VL.fr {σ σ' : Mem} {x : Nat → Nat} {L e : Nat} (h : VL σ x L e) (f : σ' 5008 = σ 5008) : VL σ' x L e := fun q => by rw [f]; exact h q
/-! a line, the tape, load: the reference's -/
def TD (σ : Mem) (b5 b6 : Bool) : Prop := tb (σ 5010) 5 = b5 ∧ tb (σ 5010) 6 = b6
theorem TD.fr {σ σ' : Mem} {b5 b6 : Bool} (h : TD σ b5 b6) (f : σ' 5010 = σ 5010) : TD σ' b5 b6 := ⟨by rw [f]; exact h.1, by rw [f]; exact h.2⟩
/-! the tape, load: the reference's -/
theorem TX.more {b n : Nat} {x : Nat → Nat} {σ : Mem} (h : TX b σ n x) (h1 : x n < 256) (h2 : σ (b + n) = by8 (x n)) : TX b σ (n + 1) x := fun k hk => by
  by_cases e : k = n
  · rw [e]
    exact ⟨h1, h2⟩
  · exact h k (by omega)
/-! the class's lines -/
def nps (x : Nat → Nat) (L e : Nat) : Nat → Nat
  | 0 => e
  | j + 1 => txE x L (nps x L e j)
def NU (σ : Mem) (x : Nat → Nat) (L e i : Nat) : Prop := ∀ j, j < i → σ (15010 + j) = nI (txV x L (nps x L e j))
theorem NU.fr {σ σ' : Mem} {x : Nat → Nat} {L e i : Nat} (h : NU σ x L e i) (f : ∀ a, 15010 ≤ a → a < 15010 + i → σ' a = σ a) : NU σ' x L e i := fun j hj => by rw [f _ (by omega) (by omega)]; exact h j hj
theorem NU.more {σ : Mem} {x : Nat → Nat} {L e i : Nat} (h : NU σ x L e i) (h1 : σ (15010 + i) = nI (txV x L (nps x L e i))) : NU σ x L e (i + 1) := fun j hj => by
  by_cases q : j = i
  · rw [q]; exact h1
  · exact h j (by omega)
/-! the class's line, read, load, the tape -/
def TC (σ : Mem) (b5 b6 : Bool) : Prop := tb (σ 15006) 6 = b5 ∧ tb (σ 15006) 7 = b6
theorem TC.fr {σ σ' : Mem} {b5 b6 : Bool} (h : TC σ b5 b6) (f : σ' 15006 = σ 15006) : TC σ' b5 b6 := ⟨by rw [f]; exact h.1, by rw [f]; exact h.2⟩
/-! read, load, the tape: the class's -/
theorem ad_z {ν : Nat → Int32} (h : jz ν) : jz (adn ν) := fun a h1 h2 => by
  unfold adn
  rw [upd_ne (by omega), upd_ne (by omega)]
  by_cases c : a = 16 + nN ν
  · omega
  · rw [upd_ne c]
    exact h a h1 h2
theorem nod_z {μ : Nat → Int32} (h : jz μ) : ∀ n, jz (nod9 μ n)
  | 0 => h
  | n + 1 => ad_z (nod_z h n)
theorem up_z {μ : Nat → Int32} {c : Nat} {v : Int32} (h : jz μ) (hc : c < 11 ∨ 16 ≤ c) : jz (upd μ c v) := fun a h1 h2 => by
  rw [upd_ne (by omega)]
  exact h a h1 h2
theorem EF_z {μ : Nat → Int32} {k a b c : Nat} (h : jz μ) : jz (EF μ k a b c) := by
  unfold EF
  repeat' split
  · exact nod_z h a
  · exact up_z h (by omega)
  · exact up_z (up_z h (by omega)) (by omega)
  · exact up_z h (by omega)
  · exact up_z h (by omega)
  · exact up_z h (by omega)
  · exact up_z h (by omega)
  · exact up_z h (by omega)
theorem bg_z : jz bgP := fun a h1 h2 => bgP_0 (by omega)
/-! the two, held together -/
def ME (σ : Mem) (N : Nat) (μ : Nat → Int32) (nt : Nat) (g : Nat → Nat → Int32) : Prop := vw 0 σ = μ ∧ vw (vb 0) σ = μ ∧ MI μ ∧ μ 7 = nI nt ∧ nt ≤ N ∧ LR 0 σ nt g ∧ LC (vb 0) σ nt g ∧ jz μ
def PJ (σ : Mem) : Prop := jz (vw (vb 1) σ)
def MK (σ : Mem) (N mk : Nat) (M : Nat → Nat → Int32) (T : Nat → Nat) (G : Nat → Nat → Nat → Int32) : Prop := mk ≤ 4 ∧ σ 4001 = nI mk ∧ σ 14001 = nI mk ∧ (∀ j, j < 4 → LR (1056 + 528 * j) σ (T j) (G j)) ∧ (∀ j, j < 4 → jz (vw (vb (2 + j)) σ)) ∧
  ∀ j, j < mk → vw (1056 + 528 * j) σ = M j ∧ vw (vb (2 + j)) σ = M j ∧ MI (M j) ∧ M j 7 = nI (T j) ∧ T j ≤ N ∧ LC (vb (2 + j)) σ (T j) (G j)
def TA (σ : Mem) (t : Nat) (tp : Nat → Nat) : Prop := t ≤ 400 ∧ σ 4002 = nI t ∧ σ 14002 = nI t ∧ TX 4100 σ t tp ∧ TX 14100 σ t tp
def FA (σ : Mem) : Prop := σ 4003 = σ 14003 ∧ σ 4004 = σ 14004
section LXs
variable {σ σ' : Mem} {N N' : Nat}
theorem vb_e (m : Nat) : vb m = 10000 + 528 * m := rfl
theorem vw_of {b : Nat} (f : ∀ a, b ≤ a → a < b + 464 → a ≠ b + 10 → σ' a = σ a) : vw b σ' = vw b σ := vw_fr fun j h1 h2 => f _ (by omega) (by omega) (by omega)
theorem ME.fr {μ : Nat → Int32} {nt : Nat} {g : Nat → Nat → Int32} (h : ME σ N μ nt g) (f : ∀ a, (a < 528 ∨ (10000 ≤ a ∧ a < 10528 ∧ a ≠ 10010)) → σ' a = σ a) : ME σ' N μ nt g := by
  obtain ⟨h1, h2, h3, h4, h5, h6, h7, h8⟩ := h
  have e0 := vb_e 0
  exact ⟨(vw_of fun a q1 q2 q3 => f a (by omega)).trans h1, (vw_of fun a q1 q2 q3 => f a (by omega)).trans h2, h3, h4, h5, h6.fr fun a ha => f a (by omega), h7.fr fun a q1 q2 => f a (by omega), h8⟩
theorem PJ.fr (h : PJ σ) (f : ∀ a, 10528 ≤ a → a < 11056 → σ' a = σ a) : PJ σ' := by
  have e1 := vb_e 1
  unfold PJ
  rw [vw_of (σ := σ) fun a q1 q2 q3 => f a (by omega) (by omega)]
  exact h
theorem MK.fr {mk : Nat} {M : Nat → Nat → Int32} {T : Nat → Nat} {G : Nat → Nat → Nat → Int32} (h : MK σ N mk M T G) (f : ∀ a, (a = 4001 ∨ a = 14001 ∨ (1056 ≤ a ∧ a < 3168) ∨ (11056 ≤ a ∧ a < 13168)) → σ' a = σ a) : MK σ' N mk M T G := by
  obtain ⟨h1, h2, h3, h4, h5, h6⟩ := h
  refine ⟨h1, (f _ (by omega)).trans h2, (f _ (by omega)).trans h3, fun j hj => (h4 j hj).fr fun a ha => f a (by omega), fun j hj => ?_, fun j hj => ?_⟩
  · have e1 := vb_e (2 + j)
    rw [vw_of (σ := σ) fun a q1 q2 q3 => f a (by omega)]
    exact h5 j hj
  · obtain ⟨k1, k2, k3, k4, k5, k6⟩ := h6 j hj
    have e1 := vb_e (2 + j)
    exact ⟨(vw_of fun a q1 q2 q3 => f a (by omega)).trans k1, (vw_of fun a q1 q2 q3 => f a (by omega)).trans k2, k3, k4, k5, k6.fr fun a q1 q2 => f a (by omega)⟩
theorem TA.fr {t : Nat} {tp : Nat → Nat} (h : TA σ t tp) (f : ∀ a, (a = 4002 ∨ a = 14002 ∨ (4100 ≤ a ∧ a < 4500) ∨ (14100 ≤ a ∧ a < 14500)) → σ' a = σ a) : TA σ' t tp := by
  obtain ⟨h1, h2, h3, h4, h5⟩ := h
  exact ⟨h1, (f _ (by omega)).trans h2, (f _ (by omega)).trans h3, h4.fr fun a q1 q2 => f a (by omega), h5.fr fun a q1 q2 => f a (by omega)⟩
theorem FA.fr (h : FA σ) (f : ∀ a, (a = 4003 ∨ a = 4004 ∨ a = 14003 ∨ a = 14004) → σ' a = σ a) : FA σ' := by
  refine ⟨?_, ?_⟩
  · rw [f _ (by omega), f _ (by omega)]; exact h.1
  · rw [f _ (by omega), f _ (by omega)]; exact h.2
end LXs
/-- behind the class's call the reference's mesh stands as it stood -/
theorem ME.ref {σ σ1 : Mem} {N nt : Nat} {μ : Nat → Int32} {g : Nat → Nat → Int32} (h : ME σ N μ nt g) (f1 : ∀ a, a < 528 → σ1 a = σ a) : vw 0 σ1 = μ ∧ LR 0 σ1 nt g := ⟨(vw_of fun a q1 q2 q3 => f1 a (by omega)).trans h.1, h.2.2.2.2.2.1.fr fun a ha => f1 a (by omega)⟩
section SS
variable {l : Launch} {w : Wd} {N : Nat}

def Gd (μ' μ : Nat → Int32) : Prop := MI μ' ∧ μ' 7 = μ 7 ∧ jz μ'
theorem gd_pk {S : Nat} {a b : Nat → Int32} (hb : MI b) (jb : jz b) (h : S = 0 → Gd a b) : Gd (pk0 S a b) b := by
  unfold pk0
  by_cases c : S = 0
  · rw [if_pos c]; exact h c
  · rw [if_neg c]; exact ⟨hb, rfl, jb⟩
theorem gd_up {μ : Nat → Int32} {a : Nat} {v : Int32} (jb : jz μ) (h : MI (upd μ a v)) (ha : a < 7 ∨ 16 ≤ a) : Gd (upd μ a v) μ := ⟨h, upd_ne (by omega), up_z jb (by omega)⟩
theorem tkL_7 {ls n : Nat} {s : TT} (h : MI s.1) (h7 : s.1 7 = nI n) : ∀ m, ∃ n', n' ≤ n + 8 * m ∧ (tkL ls s m).1 7 = nI n'
  | 0 => ⟨n, by omega, h7⟩
  | m + 1 => by
    obtain ⟨n1, k1, k2⟩ := tkL_7 h h7 m
    obtain ⟨n2, k3, k4⟩ := tkF_7 (ls := ls) (tkL_all (ls := ls) h m).1 k2
    exact ⟨n2, by omega, k4⟩
theorem tkL_z {ls : Nat} {s : TT} (h : MI s.1) (jb : jz s.1) : ∀ m, jz (tkL ls s m).1
  | 0 => jb
  | m + 1 => fun a h1 h2 => (tkF_z (tkL_all (ls := ls) h m).1 h1 h2).trans (tkL_z h jb m a h1 h2)
def Gt (N : Nat) (ν : Nat → Int32) (nt : Nat) : Prop := MI ν ∧ ν 7 = nI nt ∧ nt ≤ N + 1600 ∧ jz ν
theorem gt_pk {S ls nt n : Nat} {s : TT} (hI : MI s.1) (jb : jz s.1) (h7 : s.1 7 = nI nt) (hn : nt ≤ N) (hN : N < 2 ^ 29) (h : S = 0 → n ≤ 200) : Gt N (pk0 S (tkL ls s n).1 s.1) (if S = 0 then nA (tkL ls s n).1 7 else nt) := by
  unfold pk0
  by_cases c : S = 0
  · obtain ⟨n1, k1, k2⟩ := tkL_7 (ls := ls) hI h7 n
    have k3 := h c
    rw [if_pos c, if_pos c, nA_nI (by omega) k2]
    exact ⟨(tkL_all hI n).1, k2, by omega, tkL_z hI jb n⟩
  · rw [if_neg c, if_neg c]
    exact ⟨hI, h7, by omega, jb⟩
end SS
