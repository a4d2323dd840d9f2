theorem mc_t_lt {x y : Int32} (h : mm_cc .lt x y = true) : x.toInt < y.toInt := Int32.lt_iff_toInt_lt.mp (of_decide_eq_true h)
theorem mc_f_lt {x y : Int32} (h : mm_cc .lt x y = false) : x.toInt ≥ y.toInt := Int32.le_iff_toInt_le.mp (Int32.not_lt.mp (of_decide_eq_false h))
theorem mc_t_ge {x y : Int32} (h : mm_cc .ge x y = true) : x.toInt ≥ y.toInt := Int32.le_iff_toInt_le.mp (of_decide_eq_true h)
theorem mc_f_ge {x y : Int32} (h : mm_cc .ge x y = false) : x.toInt < y.toInt := Int32.lt_iff_toInt_lt.mp (Int32.not_le.mp (of_decide_eq_false h))
theorem mc_t_gt {x y : Int32} (h : mm_cc .gt x y = true) : x.toInt > y.toInt := Int32.lt_iff_toInt_lt.mp (of_decide_eq_true h)
theorem mc_f_gt {x y : Int32} (h : mm_cc .gt x y = false) : x.toInt ≤ y.toInt := Int32.le_iff_toInt_le.mp (Int32.not_lt.mp (of_decide_eq_false h))
theorem mc_t_le {x y : Int32} (h : mm_cc .le x y = true) : x.toInt ≤ y.toInt := Int32.le_iff_toInt_le.mp (of_decide_eq_true h)
theorem mc_f_le {x y : Int32} (h : mm_cc .le x y = false) : x.toInt > y.toInt := Int32.lt_iff_toInt_lt.mp (Int32.not_le.mp (of_decide_eq_false h))
theorem mc_t_eq {x y : Int32} (h : mm_cc .eq x y = true) : x.toInt = y.toInt := by rw [of_decide_eq_true h]
theorem mc_f_eq {x y : Int32} (h : mm_cc .eq x y = false) : x.toInt ≠ y.toInt := fun e => of_decide_eq_false h (Int32.toInt_inj.mp e)
theorem mc_t_ne {x y : Int32} (h : mm_cc .ne x y = true) : x.toInt ≠ y.toInt := mc_f_eq (by simpa [mm_cc] using h)
theorem mc_f_ne {x y : Int32} (h : mm_cc .ne x y = false) : x.toInt = y.toInt := mc_t_eq (by simpa [mm_cc] using h)
theorem lc_v (x y : Int64) : (lg_cmp x y).toInt = if y.toInt < x.toInt then 1 else if x.toInt = y.toInt then 0 else -1 := by
  unfold lg_cmp
  simp only [gt_iff_lt, Int64.lt_iff_toInt_lt, ← Int64.toInt_inj]
  split
  · rfl
  · split <;> rfl
theorem lc_t_lt {x : Int32} {y : Int64} (h : mm_cc .lt (lg_cmp x.toInt64 y) 0 = true) : x.toInt < y.toInt := by
  have h1 := mc_t_lt h
  rw [lc_v, Int32.toInt_toInt64] at h1
  simp only [Int32.toInt_zero] at h1
  split at h1
  · omega
  · split at h1 <;> omega
theorem lc_f_lt {x : Int32} {y : Int64} (h : mm_cc .lt (lg_cmp x.toInt64 y) 0 = false) : x.toInt ≥ y.toInt := by
  have h1 := mc_f_lt h
  rw [lc_v, Int32.toInt_toInt64] at h1
  simp only [Int32.toInt_zero] at h1
  split at h1
  · omega
  · split at h1 <;> omega
theorem lc_t_gt {x : Int32} {y : Int64} (h : mm_cc .gt (lg_cmp x.toInt64 y) 0 = true) : x.toInt > y.toInt := by
  have h1 := mc_t_gt h
  rw [lc_v, Int32.toInt_toInt64] at h1
  simp only [Int32.toInt_zero] at h1
  split at h1
  · omega
  · split at h1 <;> omega
theorem lc_f_gt {x : Int32} {y : Int64} (h : mm_cc .gt (lg_cmp x.toInt64 y) 0 = false) : x.toInt ≤ y.toInt := by
  have h1 := mc_f_gt h
  rw [lc_v, Int32.toInt_toInt64] at h1
  simp only [Int32.toInt_zero] at h1
  split at h1
  · omega
  · split at h1 <;> omega

def pk_ok (h : mm_H) : Prop := h.length = 137 ∧ mm_sz h = 2856
set_option maxRecDepth 20000 in
theorem pk_ok0 : pk_ok hp_0 := ⟨by decide +kernel, by decide +kernel⟩
theorem pk_okS {h : mm_H} {a : Nat} {e e' : mm_E} (k : pk_ok h) (ha : h[a]? = some e) (hc : mm_cs e' = mm_cs e) : pk_ok (h.set a e') := ⟨by rw [List.length_set]; exact k.1, by rw [mm_sz_set ha hc]; exact k.2⟩
