/-! the law's start -/
theorem bgP_hi {j : Nat} (h : ¬ (j < 464 ∧ j ≠ 10)) : bgP j = 0 := bgP_0 (by omega)
theorem hs_arr {w : Wd} {σ : Mem} {t n a : Nat} {f : Nat → Nat} {H : Heap} {c : ClassId} (g : Nat → Int32) (ht : t ≠ 2) (hc : c = if t = 1 then w.2.2.1.2.1 else w.2.2.1.1) (hz : ∀ j, j < n → σ (f j) = g j) (h : H[a]? = some (vp_cell c (n, .inl g))) : va_at w.2.1 vwCl (a, cE w σ (.inr (t, n, f))) H := by
  rw [cE_arr ht, h, hc]
  exact congrArg some (cell_congr fun j hj => (hz j hj).symm)
theorem cell_congr_q {c : ClassId} {n : Nat} {f g : Nat → Option Nat} (h : ∀ j, j < n → f j = g j) : vp_cell c (n, .inr (.inr (.inr (.inr f)))) = vp_cell c (n, .inr (.inr (.inr (.inr g)))) := by
  rw [vp_cell_q, vp_cell_q]
  unfold arrV
  congr 1
  apply Array.ext
  · simp
  · intro i h1 h2
    simp at h1
    simp [h i h1]
theorem va_P.l {D : va_G} {cl : List vw_C} {w1 w2 : va_W} {H : Heap} (h : va_P D cl (w1 ++ w2) H) : va_P D cl w1 H := fun k q hk => h k q (by rw [List.getElem?_append_left (List.getElem?_eq_some_iff.mp hk).1]; exact hk)
theorem va_P.r {D : va_G} {cl : List vw_C} {w1 w2 : va_W} {H : Heap} (h : va_P D cl (w1 ++ w2) H) : va_P D cl w2 H := fun k q hk => h (w1.length + k) q (by rw [List.getElem?_append_right (Nat.le_add_right _ _), Nat.add_sub_cancel_left]; exact hk)
