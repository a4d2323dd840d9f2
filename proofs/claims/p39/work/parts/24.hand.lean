/-! Arrays.fill, the reference's 'in', a text's length and characters -/
theorem hz_fe {Z : dz_Z} {c b f n tag : Nat} {g g' : Int → Int} (htg : tag = 0 ∨ tag = 1) (hc : hz_t[c]? = some (.inl (tag, b, f, n))) (hg : ∀ j : Int, 0 ≤ j → j < n → g j = g' j) : hz_0 (dz_f Z b f g) = hz_0 (dz_f Z b f g') := by
  rw [← hz_s (Z := Z) (Z' := dz_f Z b f g) hc hz_ma dz_fo, ← hz_s (Z := Z) (Z' := dz_f Z b f g') hc hz_ma dz_fo]
  have e1 : dz_w n g = dz_w n g' := List.map_congr_left (fun i hi => by rw [hg i (by omega) (by have := List.mem_range.mp hi; omega)])
  have e2 : dz_x n g = dz_x n g' := List.map_congr_left (fun i hi => by rw [hg i (by omega) (by have := List.mem_range.mp hi; omega)])
  rcases htg with rfl | rfl
  · simp only [hz_c, dz_fe, e1]
  · simp only [hz_c, dz_fe, e2]
theorem dz_fu {Z : dz_Z} {b f : Nat} {v i : Int} : dz_u (dz_f Z b f (fun j => if j < i then v else Z b f j)) b f i v = dz_f Z b f (fun j => if j < i + 1 then v else (if j < i then v else Z b f j)) := by
  funext b' f' j
  unfold dz_u dz_f
  by_cases h : b' = b ∧ f' = f
  · obtain ⟨rfl, rfl⟩ := h
    simp only [true_and, and_self, if_true]
    by_cases hj : j = i
    · subst hj; rw [if_pos rfl, if_pos (by omega)]
    · rw [if_neg hj]
      by_cases h1 : j < i
      · rw [if_pos h1, if_pos (by omega)]
      · rw [if_neg h1, if_neg (by omega)]
  · rw [if_neg (fun q => h ⟨q.1, q.2.1⟩), if_neg h, if_neg h]
theorem dz_fu' {Z : dz_Z} {b f : Nat} {v i : Int} : dz_u (dz_f Z b f (fun j => if j < i then v else Z b f j)) b f i v = dz_f Z b f (fun j => if j < i + 1 then v else Z b f j) := by
  rw [dz_fu]
  congr 1
  funext j
  by_cases h : j < i + 1
  · rw [if_pos h, if_pos h]
  · rw [if_neg h, if_neg h, if_neg (by omega)]
section fill
variable {X : Option (List Int32)} {D : Nat} {Q : Option Value → mm_H → Prop} {Z : dz_Z} {c b f n : Nat} {v : Int}
theorem jw_flI (hc : hz_t[c]? = some (.inl (0, b, f, n))) (hn : n ≤ 2147483647) (k : Q none (hz_0 (dz_f Z b f (fun _ => v)))) : ∀ (m i : Nat), i + m = n → mm_Wp X D mm_r200 5 [some (.ref c), some (dz_I v), some (dz_I (i : Int)), some (dz_I (n : Int))] [] (hz_0 (dz_f Z b f (fun j => if j < (i : Int) then v else Z b f j))) Q
  | 0, i, h => by
    refine wp_s (i := .iload_n 2) (n := 1) (pc' := 6) (st' := [dz_I (i : Int)]) rfl rfl ?_
    refine wp_s (i := .iload_n 3) (n := 1) (pc' := 7) (st' := [dz_I (n : Int), dz_I (i : Int)]) rfl rfl ?_
    refine wq_ic (p := (n : Int) ≤ (i : Int)) (tt := 20) (pc' := 10) rfl rfl (cq_ge (dz_ci (by omega) (by omega)) (dz_ci (by omega) (by omega))) rfl (fun _ => ?_) (fun hk => absurd (by omega) hk)
    refine wq_rv rfl rfl ?_
    rw [hz_fe (by decide) hc (g' := fun _ => v) (fun j h0 h1 => by show (if j < (i : Int) then v else Z b f j) = v; rw [if_pos (by omega)])]
    exact k
  | m + 1, i, h => by
    refine wp_s (i := .iload_n 2) (n := 1) (pc' := 6) (st' := [dz_I (i : Int)]) rfl rfl ?_
    refine wp_s (i := .iload_n 3) (n := 1) (pc' := 7) (st' := [dz_I (n : Int), dz_I (i : Int)]) rfl rfl ?_
    refine wq_ic (p := (n : Int) ≤ (i : Int)) (tt := 20) (pc' := 10) rfl rfl (cq_ge (dz_ci (by omega) (by omega)) (dz_ci (by omega) (by omega))) rfl (fun hk => absurd hk (by omega)) (fun hk => ?_)
    refine wp_s (i := .aload_n 0) (n := 1) (pc' := 11) (st' := [.ref c]) rfl rfl ?_
    refine wp_s (i := .iload_n 2) (n := 1) (pc' := 12) (st' := [dz_I (i : Int), .ref c]) rfl rfl ?_
    refine wp_s (i := .iload_n 1) (n := 1) (pc' := 13) (st' := [dz_I v, dz_I (i : Int), .ref c]) rfl rfl ?_
    refine wq_is (j' := (i : Int)) (x := v) (pc' := 14) rfl hc (dz_ci (by omega) (by omega)) (by omega) (by omega) rfl (fun Z' e => ?_)
    rw [dz_fu'] at e
    subst e
    refine wq_inc (k := 2) (d := 1) (x := (i : Int)) (ls' := [some (.ref c), some (dz_I v), some (dz_I ((i : Int) + 1)), some (dz_I (n : Int))]) (pc' := 17) rfl rfl rfl rfl ?_
    refine wp_s (i := .goto (-12)) (n := 3) (pc' := 5) (st' := []) rfl rfl ?_
    have := jw_flI hc hn k m (i + 1) (by omega)
    rw [show (((i + 1 : Nat)) : Int) = (i : Int) + 1 from by omega] at this
    exact this
theorem jw_fillI (hc : hz_t[c]? = some (.inl (0, b, f, n))) (hn : n ≤ 2147483647) (k : ∀ Z', Z' = dz_f Z b f (fun _ => v) → Q none (hz_0 Z')) : mm_Wp X D mm_r200 0 [some (.ref c), some (dz_I v), none, none] [] (hz_0 Z) Q := by
  refine wp_s (i := .iconst 0) (n := 1) (pc' := 1) (st' := [dz_I 0]) rfl rfl ?_
  refine wq_st (k := 2) (i := .istore_n 2) (n := 1) (ls' := [some (.ref c), some (dz_I v), some (dz_I 0), none]) (pc' := 2) rfl rfl rfl rfl rfl ?_
  refine wp_s (i := .aload_n 0) (n := 1) (pc' := 3) (st' := [.ref c]) rfl rfl ?_
  refine wq_al (pc' := 4) rfl (Or.inl rfl) hc rfl ?_
  refine wq_st (k := 3) (i := .istore_n 3) (n := 1) (ls' := [some (.ref c), some (dz_I v), some (dz_I 0), some (dz_I (n : Int))]) (pc' := 5) rfl rfl rfl rfl rfl ?_
  have := jw_flI (X := X) (D := D) (v := v) hc hn (k _ rfl) n 0 (by omega)
  rw [hz_fe (by decide) hc (g' := Z b f) (fun j h0 h1 => by show (if j < ((0 : Nat) : Int) then v else Z b f j) = Z b f j; rw [if_neg (by omega)])] at this
  rw [show dz_f Z b f (Z b f) = Z from by funext b' f' i'; unfold dz_f; split <;> simp_all] at this
  exact this
theorem jw_flJ (hc : hz_t[c]? = some (.inl (1, b, f, n))) (hn : n ≤ 2147483647) (k : Q none (hz_0 (dz_f Z b f (fun _ => v)))) : ∀ (m i : Nat), i + m = n → mm_Wp X D mm_r199 6 [some (.ref c), some (dz_J v), none, some (dz_I (i : Int)), some (dz_I (n : Int))] [] (hz_0 (dz_f Z b f (fun j => if j < (i : Int) then v else Z b f j))) Q
  | 0, i, h => by
    refine wp_s (i := .iload_n 3) (n := 1) (pc' := 7) (st' := [dz_I (i : Int)]) rfl rfl ?_
    refine wp_s (i := .iload 4) (n := 2) (pc' := 9) (st' := [dz_I (n : Int), dz_I (i : Int)]) rfl rfl ?_
    refine wq_ic (p := (n : Int) ≤ (i : Int)) (tt := 22) (pc' := 12) rfl rfl (cq_ge (dz_ci (by omega) (by omega)) (dz_ci (by omega) (by omega))) rfl (fun _ => ?_) (fun hk => absurd (by omega) hk)
    refine wq_rv rfl rfl ?_
    rw [hz_fe (by decide) hc (g' := fun _ => v) (fun j h0 h1 => by show (if j < (i : Int) then v else Z b f j) = v; rw [if_pos (by omega)])]
    exact k
  | m + 1, i, h => by
    refine wp_s (i := .iload_n 3) (n := 1) (pc' := 7) (st' := [dz_I (i : Int)]) rfl rfl ?_
    refine wp_s (i := .iload 4) (n := 2) (pc' := 9) (st' := [dz_I (n : Int), dz_I (i : Int)]) rfl rfl ?_
    refine wq_ic (p := (n : Int) ≤ (i : Int)) (tt := 22) (pc' := 12) rfl rfl (cq_ge (dz_ci (by omega) (by omega)) (dz_ci (by omega) (by omega))) rfl (fun hk => absurd hk (by omega)) (fun hk => ?_)
    refine wp_s (i := .aload_n 0) (n := 1) (pc' := 13) (st' := [.ref c]) rfl rfl ?_
    refine wp_s (i := .iload_n 3) (n := 1) (pc' := 14) (st' := [dz_I (i : Int), .ref c]) rfl rfl ?_
    refine wp_s (i := .lload_n 1) (n := 1) (pc' := 15) (st' := [dz_J v, dz_I (i : Int), .ref c]) rfl rfl ?_
    refine wq_ls (j' := (i : Int)) (x := v) (pc' := 16) rfl hc (dz_ci (by omega) (by omega)) (by omega) (by omega) rfl (fun Z' e => ?_)
    rw [dz_fu'] at e
    subst e
    refine wq_inc (k := 3) (d := 1) (x := (i : Int)) (ls' := [some (.ref c), some (dz_J v), none, some (dz_I ((i : Int) + 1)), some (dz_I (n : Int))]) (pc' := 19) rfl rfl rfl rfl ?_
    refine wp_s (i := .goto (-13)) (n := 3) (pc' := 6) (st' := []) rfl rfl ?_
    have := jw_flJ hc hn k m (i + 1) (by omega)
    rw [show (((i + 1 : Nat)) : Int) = (i : Int) + 1 from by omega] at this
    exact this
theorem jw_fillJ (hc : hz_t[c]? = some (.inl (1, b, f, n))) (hn : n ≤ 2147483647) (k : ∀ Z', Z' = dz_f Z b f (fun _ => v) → Q none (hz_0 Z')) : mm_Wp X D mm_r199 0 [some (.ref c), some (dz_J v), none, none, none] [] (hz_0 Z) Q := by
  refine wp_s (i := .iconst 0) (n := 1) (pc' := 1) (st' := [dz_I 0]) rfl rfl ?_
  refine wq_st (k := 3) (i := .istore_n 3) (n := 1) (ls' := [some (.ref c), some (dz_J v), none, some (dz_I 0), none]) (pc' := 2) rfl rfl rfl rfl rfl ?_
  refine wp_s (i := .aload_n 0) (n := 1) (pc' := 3) (st' := [.ref c]) rfl rfl ?_
  refine wq_al (pc' := 4) rfl (Or.inr rfl) hc rfl ?_
  refine wq_st (k := 4) (i := .istore 4) (n := 2) (ls' := [some (.ref c), some (dz_J v), none, some (dz_I 0), some (dz_I (n : Int))]) (pc' := 6) rfl rfl rfl rfl rfl ?_
  have := jw_flJ (X := X) (D := D) (v := v) hc hn (k _ rfl) n 0 (by omega)
  rw [hz_fe (by decide) hc (g' := Z b f) (fun j h0 h1 => by show (if j < ((0 : Nat) : Int) then v else Z b f j) = Z b f j; rw [if_neg (by omega)])] at this
  rw [show dz_f Z b f (Z b f) = Z from by funext b' f' i'; unfold dz_f; split <;> simp_all] at this
  exact this
end fill
section hand
variable {X : Option (List Int32)} {D : Nat} {Q : Option Value → mm_H → Prop} {h : mm_H}
theorem jw_in {a b c a' b' c' : Int} (ha : dz_l a = a') (hb : dz_l b = b') (hc : dz_l c = c') (k : Q (some (dz_B (decide (b' ≤ a' ∧ a' ≤ c')))) h) : mm_Wp X D mm_r120 0 [some (dz_J a), none, some (dz_J b), none, some (dz_J c), none] [] h Q := by
  refine wp_s (i := .lload_n 0) (n := 1) (pc' := 1) (st' := [dz_J a]) rfl rfl ?_
  refine wp_s (i := .lload_n 2) (n := 1) (pc' := 2) (st' := [dz_J b, dz_J a]) rfl rfl ?_
  refine wp_s (i := .lcmp) (n := 1) (pc' := 3) (st' := [.int (lg_cmp (Int64.ofInt a) (Int64.ofInt b))]) rfl rfl ?_
  refine wq_if (p := a' < b') (tt := 17) (pc' := 6) rfl rfl (cl_lt ha hb) rfl (fun c1 => ?_) (fun c1 => ?_)
  · refine wp_s (i := .iconst 0) (n := 1) (pc' := 18) (st' := [dz_I 0]) rfl rfl ?_
    refine wq_rf rfl rfl ?_
    rw [decide_eq_false (by omega)] at k
    exact k
  · refine wp_s (i := .lload_n 0) (n := 1) (pc' := 7) (st' := [dz_J a]) rfl rfl ?_
    refine wp_s (i := .lload 4) (n := 2) (pc' := 9) (st' := [dz_J c, dz_J a]) rfl rfl ?_
    refine wp_s (i := .lcmp) (n := 1) (pc' := 10) (st' := [.int (lg_cmp (Int64.ofInt a) (Int64.ofInt c))]) rfl rfl ?_
    refine wq_if (p := c' < a') (tt := 17) (pc' := 13) rfl rfl (cl_gt ha hc) rfl (fun c2 => ?_) (fun c2 => ?_)
    · refine wp_s (i := .iconst 0) (n := 1) (pc' := 18) (st' := [dz_I 0]) rfl rfl ?_
      refine wq_rf rfl rfl ?_
      rw [decide_eq_false (by omega)] at k
      exact k
    · refine wp_s (i := .iconst 1) (n := 1) (pc' := 14) (st' := [dz_I 1]) rfl rfl ?_
      refine wp_s (i := .goto 4) (n := 3) (pc' := 18) (st' := [dz_I 1]) rfl rfl ?_
      refine wq_rt rfl rfl ?_
      rw [decide_eq_true (by omega)] at k
      exact k
def jf_len (t : Nat) : Int := ((mm_txt.getD t []).length : Int)
def jf_chr (t : Nat) (j : Int) : Int := ((mm_txt.getD t []).getD j.toNat 0).toInt
theorem hz_tx {t : Nat} (ht : t < 15) : mm_tx (1 + t) = true := by
  unfold mm_tx
  rw [Bool.and_eq_true, Nat.ble_eq, Nat.ble_eq]
  omega
theorem jw_cd0 : mm_rt (some .byte) .ireturn [.int 0] = some (some (.int 0)) := by
  show (bif decide ((0 : Int32).toInt8.toInt32 = 0) then some (some (Value.int 0)) else none) = _
  rw [show decide ((0 : Int32).toInt8.toInt32 = 0) = true from by decide]
  rfl
theorem jw_cd {t : Nat} (ht : t < 15) (k : Q (some (.int 0)) h) : mm_Wp X D mm_r195 0 [some (.retAddr (1 + t))] [] h Q := by
  refine wp_s (i := .getstatic 38) (n := 3) (pc' := 3) (st' := [.int 1]) rfl rfl ?_
  refine wp_s (i := .ifCond .eq 10) (n := 3) (pc' := 6) (st' := []) rfl rfl ?_
  refine wp_s (i := .aload_n 0) (n := 1) (pc' := 7) (st' := [.retAddr (1 + t)]) rfl rfl ?_
  refine wp_s (i := .getfield 15) (n := 3) (pc' := 10) (ls' := [some (.retAddr (1 + t))]) (st' := [.int 0]) (h' := h) rfl ?_ ?_
  · show (Sum.inl ((mm_s9 mm_r195 (.getfield 15) [.retAddr (1 + t)] h).map (fun q : List Value × mm_H => (10, [some (.retAddr (1 + t))], q.1, q.2))) : mm_O) = _
    unfold mm_s9
    simp only [hz_tx ht, cond_true]
    rfl
  · refine wp_s (i := .goto 4) (n := 3) (pc' := 14) (st' := [.int 0]) rfl rfl ?_
    refine wp_r (i := .ireturn) (n := 1) (v := some (.int 0)) rfl ?_ k
    show (match 1, mm_rt mm_r195.1.2.2.2.1 .ireturn [.int 0] with | 1, some v => (.inr (.inl v) : mm_O) | _, _ => .inl none) = _
    rw [show mm_r195.1.2.2.2.1 = some .byte from rfl, jw_cd0]; rfl
theorem jw_len_0 (k : Q (some (dz_I 4)) h) : mm_Wp X (D + 1) mm_r193 0 [some (.retAddr (1 + 0))] [] h Q := by
  refine wp_s (i := .aload_n 0) (n := 1) (pc' := 1) (st' := [.retAddr (1 + 0)]) rfl rfl ?_
  refine wp_s (i := .getfield 9) (n := 3) (pc' := 4) (st' := [.retAddr (100 + 0)]) rfl rfl ?_
  refine wp_s (i := .arraylength) (n := 1) (pc' := 5) (st' := [.int (Int32.ofNat 4)]) rfl rfl ?_
  refine wp_s (i := .aload_n 0) (n := 1) (pc' := 6) (st' := [.retAddr (1 + 0), .int (Int32.ofNat 4)]) rfl rfl ?_
  refine wq_ct (Dq := D) (r' := mm_r195) (a := 1 + 0) (as0 := []) (rest := [.int (Int32.ofNat 4)]) (ls' := [some (.retAddr (1 + 0))]) (pc' := 9) rfl rfl rfl rfl (hz_tx (by decide)) rfl rfl rfl ?_
  refine jw_cd (by decide) ?_
  show mm_Wp X (D + 1) mm_r193 9 _ [.int 0, .int (Int32.ofNat 4)] h Q
  refine wp_s (i := .ishr) (n := 1) (pc' := 10) (st' := [.int (Int32.ofNat 4 >>> ((0 : Int32) &&& 31))]) rfl rfl ?_
  rw [show (Int32.ofNat 4 >>> ((0 : Int32) &&& 31)) = Int32.ofInt 4 from by decide]
  exact wq_ri rfl rfl k
theorem jw_len_1 (k : Q (some (dz_I 3)) h) : mm_Wp X (D + 1) mm_r193 0 [some (.retAddr (1 + 1))] [] h Q := by
  refine wp_s (i := .aload_n 0) (n := 1) (pc' := 1) (st' := [.retAddr (1 + 1)]) rfl rfl ?_
  refine wp_s (i := .getfield 9) (n := 3) (pc' := 4) (st' := [.retAddr (100 + 1)]) rfl rfl ?_
  refine wp_s (i := .arraylength) (n := 1) (pc' := 5) (st' := [.int (Int32.ofNat 3)]) rfl rfl ?_
  refine wp_s (i := .aload_n 0) (n := 1) (pc' := 6) (st' := [.retAddr (1 + 1), .int (Int32.ofNat 3)]) rfl rfl ?_
  refine wq_ct (Dq := D) (r' := mm_r195) (a := 1 + 1) (as0 := []) (rest := [.int (Int32.ofNat 3)]) (ls' := [some (.retAddr (1 + 1))]) (pc' := 9) rfl rfl rfl rfl (hz_tx (by decide)) rfl rfl rfl ?_
  refine jw_cd (by decide) ?_
  show mm_Wp X (D + 1) mm_r193 9 _ [.int 0, .int (Int32.ofNat 3)] h Q
  refine wp_s (i := .ishr) (n := 1) (pc' := 10) (st' := [.int (Int32.ofNat 3 >>> ((0 : Int32) &&& 31))]) rfl rfl ?_
  rw [show (Int32.ofNat 3 >>> ((0 : Int32) &&& 31)) = Int32.ofInt 3 from by decide]
  exact wq_ri rfl rfl k
theorem jw_len_2 (k : Q (some (dz_I 6)) h) : mm_Wp X (D + 1) mm_r193 0 [some (.retAddr (1 + 2))] [] h Q := by
  refine wp_s (i := .aload_n 0) (n := 1) (pc' := 1) (st' := [.retAddr (1 + 2)]) rfl rfl ?_
  refine wp_s (i := .getfield 9) (n := 3) (pc' := 4) (st' := [.retAddr (100 + 2)]) rfl rfl ?_
  refine wp_s (i := .arraylength) (n := 1) (pc' := 5) (st' := [.int (Int32.ofNat 6)]) rfl rfl ?_
  refine wp_s (i := .aload_n 0) (n := 1) (pc' := 6) (st' := [.retAddr (1 + 2), .int (Int32.ofNat 6)]) rfl rfl ?_
  refine wq_ct (Dq := D) (r' := mm_r195) (a := 1 + 2) (as0 := []) (rest := [.int (Int32.ofNat 6)]) (ls' := [some (.retAddr (1 + 2))]) (pc' := 9) rfl rfl rfl rfl (hz_tx (by decide)) rfl rfl rfl ?_
  refine jw_cd (by decide) ?_
  show mm_Wp X (D + 1) mm_r193 9 _ [.int 0, .int (Int32.ofNat 6)] h Q
  refine wp_s (i := .ishr) (n := 1) (pc' := 10) (st' := [.int (Int32.ofNat 6 >>> ((0 : Int32) &&& 31))]) rfl rfl ?_
  rw [show (Int32.ofNat 6 >>> ((0 : Int32) &&& 31)) = Int32.ofInt 6 from by decide]
  exact wq_ri rfl rfl k
theorem jw_len_3 (k : Q (some (dz_I 5)) h) : mm_Wp X (D + 1) mm_r193 0 [some (.retAddr (1 + 3))] [] h Q := by
  refine wp_s (i := .aload_n 0) (n := 1) (pc' := 1) (st' := [.retAddr (1 + 3)]) rfl rfl ?_
  refine wp_s (i := .getfield 9) (n := 3) (pc' := 4) (st' := [.retAddr (100 + 3)]) rfl rfl ?_
  refine wp_s (i := .arraylength) (n := 1) (pc' := 5) (st' := [.int (Int32.ofNat 5)]) rfl rfl ?_
  refine wp_s (i := .aload_n 0) (n := 1) (pc' := 6) (st' := [.retAddr (1 + 3), .int (Int32.ofNat 5)]) rfl rfl ?_
  refine wq_ct (Dq := D) (r' := mm_r195) (a := 1 + 3) (as0 := []) (rest := [.int (Int32.ofNat 5)]) (ls' := [some (.retAddr (1 + 3))]) (pc' := 9) rfl rfl rfl rfl (hz_tx (by decide)) rfl rfl rfl ?_
  refine jw_cd (by decide) ?_
  show mm_Wp X (D + 1) mm_r193 9 _ [.int 0, .int (Int32.ofNat 5)] h Q
  refine wp_s (i := .ishr) (n := 1) (pc' := 10) (st' := [.int (Int32.ofNat 5 >>> ((0 : Int32) &&& 31))]) rfl rfl ?_
  rw [show (Int32.ofNat 5 >>> ((0 : Int32) &&& 31)) = Int32.ofInt 5 from by decide]
  exact wq_ri rfl rfl k
theorem jw_len_4 (k : Q (some (dz_I 6)) h) : mm_Wp X (D + 1) mm_r193 0 [some (.retAddr (1 + 4))] [] h Q := by
  refine wp_s (i := .aload_n 0) (n := 1) (pc' := 1) (st' := [.retAddr (1 + 4)]) rfl rfl ?_
  refine wp_s (i := .getfield 9) (n := 3) (pc' := 4) (st' := [.retAddr (100 + 4)]) rfl rfl ?_
  refine wp_s (i := .arraylength) (n := 1) (pc' := 5) (st' := [.int (Int32.ofNat 6)]) rfl rfl ?_
  refine wp_s (i := .aload_n 0) (n := 1) (pc' := 6) (st' := [.retAddr (1 + 4), .int (Int32.ofNat 6)]) rfl rfl ?_
  refine wq_ct (Dq := D) (r' := mm_r195) (a := 1 + 4) (as0 := []) (rest := [.int (Int32.ofNat 6)]) (ls' := [some (.retAddr (1 + 4))]) (pc' := 9) rfl rfl rfl rfl (hz_tx (by decide)) rfl rfl rfl ?_
  refine jw_cd (by decide) ?_
  show mm_Wp X (D + 1) mm_r193 9 _ [.int 0, .int (Int32.ofNat 6)] h Q
  refine wp_s (i := .ishr) (n := 1) (pc' := 10) (st' := [.int (Int32.ofNat 6 >>> ((0 : Int32) &&& 31))]) rfl rfl ?_
  rw [show (Int32.ofNat 6 >>> ((0 : Int32) &&& 31)) = Int32.ofInt 6 from by decide]
  exact wq_ri rfl rfl k
theorem jw_len_5 (k : Q (some (dz_I 5)) h) : mm_Wp X (D + 1) mm_r193 0 [some (.retAddr (1 + 5))] [] h Q := by
  refine wp_s (i := .aload_n 0) (n := 1) (pc' := 1) (st' := [.retAddr (1 + 5)]) rfl rfl ?_
  refine wp_s (i := .getfield 9) (n := 3) (pc' := 4) (st' := [.retAddr (100 + 5)]) rfl rfl ?_
  refine wp_s (i := .arraylength) (n := 1) (pc' := 5) (st' := [.int (Int32.ofNat 5)]) rfl rfl ?_
  refine wp_s (i := .aload_n 0) (n := 1) (pc' := 6) (st' := [.retAddr (1 + 5), .int (Int32.ofNat 5)]) rfl rfl ?_
  refine wq_ct (Dq := D) (r' := mm_r195) (a := 1 + 5) (as0 := []) (rest := [.int (Int32.ofNat 5)]) (ls' := [some (.retAddr (1 + 5))]) (pc' := 9) rfl rfl rfl rfl (hz_tx (by decide)) rfl rfl rfl ?_
  refine jw_cd (by decide) ?_
  show mm_Wp X (D + 1) mm_r193 9 _ [.int 0, .int (Int32.ofNat 5)] h Q
  refine wp_s (i := .ishr) (n := 1) (pc' := 10) (st' := [.int (Int32.ofNat 5 >>> ((0 : Int32) &&& 31))]) rfl rfl ?_
  rw [show (Int32.ofNat 5 >>> ((0 : Int32) &&& 31)) = Int32.ofInt 5 from by decide]
  exact wq_ri rfl rfl k
theorem jw_len_6 (k : Q (some (dz_I 3)) h) : mm_Wp X (D + 1) mm_r193 0 [some (.retAddr (1 + 6))] [] h Q := by
  refine wp_s (i := .aload_n 0) (n := 1) (pc' := 1) (st' := [.retAddr (1 + 6)]) rfl rfl ?_
  refine wp_s (i := .getfield 9) (n := 3) (pc' := 4) (st' := [.retAddr (100 + 6)]) rfl rfl ?_
  refine wp_s (i := .arraylength) (n := 1) (pc' := 5) (st' := [.int (Int32.ofNat 3)]) rfl rfl ?_
  refine wp_s (i := .aload_n 0) (n := 1) (pc' := 6) (st' := [.retAddr (1 + 6), .int (Int32.ofNat 3)]) rfl rfl ?_
  refine wq_ct (Dq := D) (r' := mm_r195) (a := 1 + 6) (as0 := []) (rest := [.int (Int32.ofNat 3)]) (ls' := [some (.retAddr (1 + 6))]) (pc' := 9) rfl rfl rfl rfl (hz_tx (by decide)) rfl rfl rfl ?_
  refine jw_cd (by decide) ?_
  show mm_Wp X (D + 1) mm_r193 9 _ [.int 0, .int (Int32.ofNat 3)] h Q
  refine wp_s (i := .ishr) (n := 1) (pc' := 10) (st' := [.int (Int32.ofNat 3 >>> ((0 : Int32) &&& 31))]) rfl rfl ?_
  rw [show (Int32.ofNat 3 >>> ((0 : Int32) &&& 31)) = Int32.ofInt 3 from by decide]
  exact wq_ri rfl rfl k
theorem jw_len_7 (k : Q (some (dz_I 4)) h) : mm_Wp X (D + 1) mm_r193 0 [some (.retAddr (1 + 7))] [] h Q := by
  refine wp_s (i := .aload_n 0) (n := 1) (pc' := 1) (st' := [.retAddr (1 + 7)]) rfl rfl ?_
  refine wp_s (i := .getfield 9) (n := 3) (pc' := 4) (st' := [.retAddr (100 + 7)]) rfl rfl ?_
  refine wp_s (i := .arraylength) (n := 1) (pc' := 5) (st' := [.int (Int32.ofNat 4)]) rfl rfl ?_
  refine wp_s (i := .aload_n 0) (n := 1) (pc' := 6) (st' := [.retAddr (1 + 7), .int (Int32.ofNat 4)]) rfl rfl ?_
  refine wq_ct (Dq := D) (r' := mm_r195) (a := 1 + 7) (as0 := []) (rest := [.int (Int32.ofNat 4)]) (ls' := [some (.retAddr (1 + 7))]) (pc' := 9) rfl rfl rfl rfl (hz_tx (by decide)) rfl rfl rfl ?_
  refine jw_cd (by decide) ?_
  show mm_Wp X (D + 1) mm_r193 9 _ [.int 0, .int (Int32.ofNat 4)] h Q
  refine wp_s (i := .ishr) (n := 1) (pc' := 10) (st' := [.int (Int32.ofNat 4 >>> ((0 : Int32) &&& 31))]) rfl rfl ?_
  rw [show (Int32.ofNat 4 >>> ((0 : Int32) &&& 31)) = Int32.ofInt 4 from by decide]
  exact wq_ri rfl rfl k
theorem jw_len_8 (k : Q (some (dz_I 4)) h) : mm_Wp X (D + 1) mm_r193 0 [some (.retAddr (1 + 8))] [] h Q := by
  refine wp_s (i := .aload_n 0) (n := 1) (pc' := 1) (st' := [.retAddr (1 + 8)]) rfl rfl ?_
  refine wp_s (i := .getfield 9) (n := 3) (pc' := 4) (st' := [.retAddr (100 + 8)]) rfl rfl ?_
  refine wp_s (i := .arraylength) (n := 1) (pc' := 5) (st' := [.int (Int32.ofNat 4)]) rfl rfl ?_
  refine wp_s (i := .aload_n 0) (n := 1) (pc' := 6) (st' := [.retAddr (1 + 8), .int (Int32.ofNat 4)]) rfl rfl ?_
  refine wq_ct (Dq := D) (r' := mm_r195) (a := 1 + 8) (as0 := []) (rest := [.int (Int32.ofNat 4)]) (ls' := [some (.retAddr (1 + 8))]) (pc' := 9) rfl rfl rfl rfl (hz_tx (by decide)) rfl rfl rfl ?_
  refine jw_cd (by decide) ?_
  show mm_Wp X (D + 1) mm_r193 9 _ [.int 0, .int (Int32.ofNat 4)] h Q
  refine wp_s (i := .ishr) (n := 1) (pc' := 10) (st' := [.int (Int32.ofNat 4 >>> ((0 : Int32) &&& 31))]) rfl rfl ?_
  rw [show (Int32.ofNat 4 >>> ((0 : Int32) &&& 31)) = Int32.ofInt 4 from by decide]
  exact wq_ri rfl rfl k
theorem jw_len_9 (k : Q (some (dz_I 4)) h) : mm_Wp X (D + 1) mm_r193 0 [some (.retAddr (1 + 9))] [] h Q := by
  refine wp_s (i := .aload_n 0) (n := 1) (pc' := 1) (st' := [.retAddr (1 + 9)]) rfl rfl ?_
  refine wp_s (i := .getfield 9) (n := 3) (pc' := 4) (st' := [.retAddr (100 + 9)]) rfl rfl ?_
  refine wp_s (i := .arraylength) (n := 1) (pc' := 5) (st' := [.int (Int32.ofNat 4)]) rfl rfl ?_
  refine wp_s (i := .aload_n 0) (n := 1) (pc' := 6) (st' := [.retAddr (1 + 9), .int (Int32.ofNat 4)]) rfl rfl ?_
  refine wq_ct (Dq := D) (r' := mm_r195) (a := 1 + 9) (as0 := []) (rest := [.int (Int32.ofNat 4)]) (ls' := [some (.retAddr (1 + 9))]) (pc' := 9) rfl rfl rfl rfl (hz_tx (by decide)) rfl rfl rfl ?_
  refine jw_cd (by decide) ?_
  show mm_Wp X (D + 1) mm_r193 9 _ [.int 0, .int (Int32.ofNat 4)] h Q
  refine wp_s (i := .ishr) (n := 1) (pc' := 10) (st' := [.int (Int32.ofNat 4 >>> ((0 : Int32) &&& 31))]) rfl rfl ?_
  rw [show (Int32.ofNat 4 >>> ((0 : Int32) &&& 31)) = Int32.ofInt 4 from by decide]
  exact wq_ri rfl rfl k
theorem jw_len_10 (k : Q (some (dz_I 6)) h) : mm_Wp X (D + 1) mm_r193 0 [some (.retAddr (1 + 10))] [] h Q := by
  refine wp_s (i := .aload_n 0) (n := 1) (pc' := 1) (st' := [.retAddr (1 + 10)]) rfl rfl ?_
  refine wp_s (i := .getfield 9) (n := 3) (pc' := 4) (st' := [.retAddr (100 + 10)]) rfl rfl ?_
  refine wp_s (i := .arraylength) (n := 1) (pc' := 5) (st' := [.int (Int32.ofNat 6)]) rfl rfl ?_
  refine wp_s (i := .aload_n 0) (n := 1) (pc' := 6) (st' := [.retAddr (1 + 10), .int (Int32.ofNat 6)]) rfl rfl ?_
  refine wq_ct (Dq := D) (r' := mm_r195) (a := 1 + 10) (as0 := []) (rest := [.int (Int32.ofNat 6)]) (ls' := [some (.retAddr (1 + 10))]) (pc' := 9) rfl rfl rfl rfl (hz_tx (by decide)) rfl rfl rfl ?_
  refine jw_cd (by decide) ?_
  show mm_Wp X (D + 1) mm_r193 9 _ [.int 0, .int (Int32.ofNat 6)] h Q
  refine wp_s (i := .ishr) (n := 1) (pc' := 10) (st' := [.int (Int32.ofNat 6 >>> ((0 : Int32) &&& 31))]) rfl rfl ?_
  rw [show (Int32.ofNat 6 >>> ((0 : Int32) &&& 31)) = Int32.ofInt 6 from by decide]
  exact wq_ri rfl rfl k
theorem jw_len_11 (k : Q (some (dz_I 4)) h) : mm_Wp X (D + 1) mm_r193 0 [some (.retAddr (1 + 11))] [] h Q := by
  refine wp_s (i := .aload_n 0) (n := 1) (pc' := 1) (st' := [.retAddr (1 + 11)]) rfl rfl ?_
  refine wp_s (i := .getfield 9) (n := 3) (pc' := 4) (st' := [.retAddr (100 + 11)]) rfl rfl ?_
  refine wp_s (i := .arraylength) (n := 1) (pc' := 5) (st' := [.int (Int32.ofNat 4)]) rfl rfl ?_
  refine wp_s (i := .aload_n 0) (n := 1) (pc' := 6) (st' := [.retAddr (1 + 11), .int (Int32.ofNat 4)]) rfl rfl ?_
  refine wq_ct (Dq := D) (r' := mm_r195) (a := 1 + 11) (as0 := []) (rest := [.int (Int32.ofNat 4)]) (ls' := [some (.retAddr (1 + 11))]) (pc' := 9) rfl rfl rfl rfl (hz_tx (by decide)) rfl rfl rfl ?_
  refine jw_cd (by decide) ?_
  show mm_Wp X (D + 1) mm_r193 9 _ [.int 0, .int (Int32.ofNat 4)] h Q
  refine wp_s (i := .ishr) (n := 1) (pc' := 10) (st' := [.int (Int32.ofNat 4 >>> ((0 : Int32) &&& 31))]) rfl rfl ?_
  rw [show (Int32.ofNat 4 >>> ((0 : Int32) &&& 31)) = Int32.ofInt 4 from by decide]
  exact wq_ri rfl rfl k
theorem jw_len_12 (k : Q (some (dz_I 4)) h) : mm_Wp X (D + 1) mm_r193 0 [some (.retAddr (1 + 12))] [] h Q := by
  refine wp_s (i := .aload_n 0) (n := 1) (pc' := 1) (st' := [.retAddr (1 + 12)]) rfl rfl ?_
  refine wp_s (i := .getfield 9) (n := 3) (pc' := 4) (st' := [.retAddr (100 + 12)]) rfl rfl ?_
  refine wp_s (i := .arraylength) (n := 1) (pc' := 5) (st' := [.int (Int32.ofNat 4)]) rfl rfl ?_
  refine wp_s (i := .aload_n 0) (n := 1) (pc' := 6) (st' := [.retAddr (1 + 12), .int (Int32.ofNat 4)]) rfl rfl ?_
  refine wq_ct (Dq := D) (r' := mm_r195) (a := 1 + 12) (as0 := []) (rest := [.int (Int32.ofNat 4)]) (ls' := [some (.retAddr (1 + 12))]) (pc' := 9) rfl rfl rfl rfl (hz_tx (by decide)) rfl rfl rfl ?_
  refine jw_cd (by decide) ?_
  show mm_Wp X (D + 1) mm_r193 9 _ [.int 0, .int (Int32.ofNat 4)] h Q
  refine wp_s (i := .ishr) (n := 1) (pc' := 10) (st' := [.int (Int32.ofNat 4 >>> ((0 : Int32) &&& 31))]) rfl rfl ?_
  rw [show (Int32.ofNat 4 >>> ((0 : Int32) &&& 31)) = Int32.ofInt 4 from by decide]
  exact wq_ri rfl rfl k
theorem jw_len_13 (k : Q (some (dz_I 5)) h) : mm_Wp X (D + 1) mm_r193 0 [some (.retAddr (1 + 13))] [] h Q := by
  refine wp_s (i := .aload_n 0) (n := 1) (pc' := 1) (st' := [.retAddr (1 + 13)]) rfl rfl ?_
  refine wp_s (i := .getfield 9) (n := 3) (pc' := 4) (st' := [.retAddr (100 + 13)]) rfl rfl ?_
  refine wp_s (i := .arraylength) (n := 1) (pc' := 5) (st' := [.int (Int32.ofNat 5)]) rfl rfl ?_
  refine wp_s (i := .aload_n 0) (n := 1) (pc' := 6) (st' := [.retAddr (1 + 13), .int (Int32.ofNat 5)]) rfl rfl ?_
  refine wq_ct (Dq := D) (r' := mm_r195) (a := 1 + 13) (as0 := []) (rest := [.int (Int32.ofNat 5)]) (ls' := [some (.retAddr (1 + 13))]) (pc' := 9) rfl rfl rfl rfl (hz_tx (by decide)) rfl rfl rfl ?_
  refine jw_cd (by decide) ?_
  show mm_Wp X (D + 1) mm_r193 9 _ [.int 0, .int (Int32.ofNat 5)] h Q
  refine wp_s (i := .ishr) (n := 1) (pc' := 10) (st' := [.int (Int32.ofNat 5 >>> ((0 : Int32) &&& 31))]) rfl rfl ?_
  rw [show (Int32.ofNat 5 >>> ((0 : Int32) &&& 31)) = Int32.ofInt 5 from by decide]
  exact wq_ri rfl rfl k
theorem jw_len_14 (k : Q (some (dz_I 4)) h) : mm_Wp X (D + 1) mm_r193 0 [some (.retAddr (1 + 14))] [] h Q := by
  refine wp_s (i := .aload_n 0) (n := 1) (pc' := 1) (st' := [.retAddr (1 + 14)]) rfl rfl ?_
  refine wp_s (i := .getfield 9) (n := 3) (pc' := 4) (st' := [.retAddr (100 + 14)]) rfl rfl ?_
  refine wp_s (i := .arraylength) (n := 1) (pc' := 5) (st' := [.int (Int32.ofNat 4)]) rfl rfl ?_
  refine wp_s (i := .aload_n 0) (n := 1) (pc' := 6) (st' := [.retAddr (1 + 14), .int (Int32.ofNat 4)]) rfl rfl ?_
  refine wq_ct (Dq := D) (r' := mm_r195) (a := 1 + 14) (as0 := []) (rest := [.int (Int32.ofNat 4)]) (ls' := [some (.retAddr (1 + 14))]) (pc' := 9) rfl rfl rfl rfl (hz_tx (by decide)) rfl rfl rfl ?_
  refine jw_cd (by decide) ?_
  show mm_Wp X (D + 1) mm_r193 9 _ [.int 0, .int (Int32.ofNat 4)] h Q
  refine wp_s (i := .ishr) (n := 1) (pc' := 10) (st' := [.int (Int32.ofNat 4 >>> ((0 : Int32) &&& 31))]) rfl rfl ?_
  rw [show (Int32.ofNat 4 >>> ((0 : Int32) &&& 31)) = Int32.ofInt 4 from by decide]
  exact wq_ri rfl rfl k
theorem jw_len {t : Nat} (ht : t < 15) (k : Q (some (dz_I (jf_len t))) h) : mm_Wp X (D + 1) mm_r193 0 [some (.retAddr (1 + t))] [] h Q := by
  match t, ht with
  | 0, _ => exact jw_len_0 k
  | 1, _ => exact jw_len_1 k
  | 2, _ => exact jw_len_2 k
  | 3, _ => exact jw_len_3 k
  | 4, _ => exact jw_len_4 k
  | 5, _ => exact jw_len_5 k
  | 6, _ => exact jw_len_6 k
  | 7, _ => exact jw_len_7 k
  | 8, _ => exact jw_len_8 k
  | 9, _ => exact jw_len_9 k
  | 10, _ => exact jw_len_10 k
  | 11, _ => exact jw_len_11 k
  | 12, _ => exact jw_len_12 k
  | 13, _ => exact jw_len_13 k
  | 14, _ => exact jw_len_14 k
  | t + 15, ht => exact absurd ht (by omega)
theorem jw_ch_0_0 : mm_x X 60 (D + 3) mm_r194 0 [some (.retAddr (1 + 0)), some (dz_I 0)] [] h = some (some (dz_I 114), h) := rfl
theorem jw_ch_0_1 : mm_x X 60 (D + 3) mm_r194 0 [some (.retAddr (1 + 0)), some (dz_I 1)] [] h = some (some (dz_I 111), h) := rfl
theorem jw_ch_0_2 : mm_x X 60 (D + 3) mm_r194 0 [some (.retAddr (1 + 0)), some (dz_I 2)] [] h = some (some (dz_I 111), h) := rfl
theorem jw_ch_0_3 : mm_x X 60 (D + 3) mm_r194 0 [some (.retAddr (1 + 0)), some (dz_I 3)] [] h = some (some (dz_I 102), h) := rfl
theorem jw_ch_1_0 : mm_x X 60 (D + 3) mm_r194 0 [some (.retAddr (1 + 1)), some (dz_I 0)] [] h = some (some (dz_I 112), h) := rfl
theorem jw_ch_1_1 : mm_x X 60 (D + 3) mm_r194 0 [some (.retAddr (1 + 1)), some (dz_I 1)] [] h = some (some (dz_I 101), h) := rfl
theorem jw_ch_1_2 : mm_x X 60 (D + 3) mm_r194 0 [some (.retAddr (1 + 1)), some (dz_I 2)] [] h = some (some (dz_I 103), h) := rfl
theorem jw_ch_2_0 : mm_x X 60 (D + 3) mm_r194 0 [some (.retAddr (1 + 2)), some (dz_I 0)] [] h = some (some (dz_I 103), h) := rfl
theorem jw_ch_2_1 : mm_x X 60 (D + 3) mm_r194 0 [some (.retAddr (1 + 2)), some (dz_I 1)] [] h = some (some (dz_I 117), h) := rfl
theorem jw_ch_2_2 : mm_x X 60 (D + 3) mm_r194 0 [some (.retAddr (1 + 2)), some (dz_I 2)] [] h = some (some (dz_I 116), h) := rfl
theorem jw_ch_2_3 : mm_x X 60 (D + 3) mm_r194 0 [some (.retAddr (1 + 2)), some (dz_I 3)] [] h = some (some (dz_I 116), h) := rfl
theorem jw_ch_2_4 : mm_x X 60 (D + 3) mm_r194 0 [some (.retAddr (1 + 2)), some (dz_I 4)] [] h = some (some (dz_I 101), h) := rfl
theorem jw_ch_2_5 : mm_x X 60 (D + 3) mm_r194 0 [some (.retAddr (1 + 2)), some (dz_I 5)] [] h = some (some (dz_I 114), h) := rfl
theorem jw_ch_3_0 : mm_x X 60 (D + 3) mm_r194 0 [some (.retAddr (1 + 3)), some (dz_I 0)] [] h = some (some (dz_I 115), h) := rfl
theorem jw_ch_3_1 : mm_x X 60 (D + 3) mm_r194 0 [some (.retAddr (1 + 3)), some (dz_I 1)] [] h = some (some (dz_I 112), h) := rfl
theorem jw_ch_3_2 : mm_x X 60 (D + 3) mm_r194 0 [some (.retAddr (1 + 3)), some (dz_I 2)] [] h = some (some (dz_I 111), h) := rfl
theorem jw_ch_3_3 : mm_x X 60 (D + 3) mm_r194 0 [some (.retAddr (1 + 3)), some (dz_I 3)] [] h = some (some (dz_I 117), h) := rfl
theorem jw_ch_3_4 : mm_x X 60 (D + 3) mm_r194 0 [some (.retAddr (1 + 3)), some (dz_I 4)] [] h = some (some (dz_I 116), h) := rfl
theorem jw_ch_4_0 : mm_x X 60 (D + 3) mm_r194 0 [some (.retAddr (1 + 4)), some (dz_I 0)] [] h = some (some (dz_I 103), h) := rfl
theorem jw_ch_4_1 : mm_x X 60 (D + 3) mm_r194 0 [some (.retAddr (1 + 4)), some (dz_I 1)] [] h = some (some (dz_I 114), h) := rfl
theorem jw_ch_4_2 : mm_x X 60 (D + 3) mm_r194 0 [some (.retAddr (1 + 4)), some (dz_I 2)] [] h = some (some (dz_I 111), h) := rfl
theorem jw_ch_4_3 : mm_x X 60 (D + 3) mm_r194 0 [some (.retAddr (1 + 4)), some (dz_I 3)] [] h = some (some (dz_I 117), h) := rfl
theorem jw_ch_4_4 : mm_x X 60 (D + 3) mm_r194 0 [some (.retAddr (1 + 4)), some (dz_I 4)] [] h = some (some (dz_I 110), h) := rfl
theorem jw_ch_4_5 : mm_x X 60 (D + 3) mm_r194 0 [some (.retAddr (1 + 4)), some (dz_I 5)] [] h = some (some (dz_I 100), h) := rfl
theorem jw_ch_5_0 : mm_x X 60 (D + 3) mm_r194 0 [some (.retAddr (1 + 5)), some (dz_I 0)] [] h = some (some (dz_I 115), h) := rfl
theorem jw_ch_5_1 : mm_x X 60 (D + 3) mm_r194 0 [some (.retAddr (1 + 5)), some (dz_I 1)] [] h = some (some (dz_I 108), h) := rfl
theorem jw_ch_5_2 : mm_x X 60 (D + 3) mm_r194 0 [some (.retAddr (1 + 5)), some (dz_I 2)] [] h = some (some (dz_I 97), h) := rfl
theorem jw_ch_5_3 : mm_x X 60 (D + 3) mm_r194 0 [some (.retAddr (1 + 5)), some (dz_I 3)] [] h = some (some (dz_I 116), h) := rfl
theorem jw_ch_5_4 : mm_x X 60 (D + 3) mm_r194 0 [some (.retAddr (1 + 5)), some (dz_I 4)] [] h = some (some (dz_I 101), h) := rfl
theorem jw_ch_6_0 : mm_x X 60 (D + 3) mm_r194 0 [some (.retAddr (1 + 6)), some (dz_I 0)] [] h = some (some (dz_I 116), h) := rfl
theorem jw_ch_6_1 : mm_x X 60 (D + 3) mm_r194 0 [some (.retAddr (1 + 6)), some (dz_I 1)] [] h = some (some (dz_I 105), h) := rfl
theorem jw_ch_6_2 : mm_x X 60 (D + 3) mm_r194 0 [some (.retAddr (1 + 6)), some (dz_I 2)] [] h = some (some (dz_I 112), h) := rfl
theorem jw_ch_7_0 : mm_x X 60 (D + 3) mm_r194 0 [some (.retAddr (1 + 7)), some (dz_I 0)] [] h = some (some (dz_I 108), h) := rfl
theorem jw_ch_7_1 : mm_x X 60 (D + 3) mm_r194 0 [some (.retAddr (1 + 7)), some (dz_I 1)] [] h = some (some (dz_I 101), h) := rfl
theorem jw_ch_7_2 : mm_x X 60 (D + 3) mm_r194 0 [some (.retAddr (1 + 7)), some (dz_I 2)] [] h = some (some (dz_I 97), h) := rfl
theorem jw_ch_7_3 : mm_x X 60 (D + 3) mm_r194 0 [some (.retAddr (1 + 7)), some (dz_I 3)] [] h = some (some (dz_I 107), h) := rfl
theorem jw_ch_8_0 : mm_x X 60 (D + 3) mm_r194 0 [some (.retAddr (1 + 8)), some (dz_I 0)] [] h = some (some (dz_I 101), h) := rfl
theorem jw_ch_8_1 : mm_x X 60 (D + 3) mm_r194 0 [some (.retAddr (1 + 8)), some (dz_I 1)] [] h = some (some (dz_I 97), h) := rfl
theorem jw_ch_8_2 : mm_x X 60 (D + 3) mm_r194 0 [some (.retAddr (1 + 8)), some (dz_I 2)] [] h = some (some (dz_I 99), h) := rfl
theorem jw_ch_8_3 : mm_x X 60 (D + 3) mm_r194 0 [some (.retAddr (1 + 8)), some (dz_I 3)] [] h = some (some (dz_I 104), h) := rfl
theorem jw_ch_9_0 : mm_x X 60 (D + 3) mm_r194 0 [some (.retAddr (1 + 9)), some (dz_I 0)] [] h = some (some (dz_I 106), h) := rfl
theorem jw_ch_9_1 : mm_x X 60 (D + 3) mm_r194 0 [some (.retAddr (1 + 9)), some (dz_I 1)] [] h = some (some (dz_I 111), h) := rfl
theorem jw_ch_9_2 : mm_x X 60 (D + 3) mm_r194 0 [some (.retAddr (1 + 9)), some (dz_I 2)] [] h = some (some (dz_I 105), h) := rfl
theorem jw_ch_9_3 : mm_x X 60 (D + 3) mm_r194 0 [some (.retAddr (1 + 9)), some (dz_I 3)] [] h = some (some (dz_I 110), h) := rfl
theorem jw_ch_10_0 : mm_x X 60 (D + 3) mm_r194 0 [some (.retAddr (1 + 10)), some (dz_I 0)] [] h = some (some (dz_I 102), h) := rfl
theorem jw_ch_10_1 : mm_x X 60 (D + 3) mm_r194 0 [some (.retAddr (1 + 10)), some (dz_I 1)] [] h = some (some (dz_I 114), h) := rfl
theorem jw_ch_10_2 : mm_x X 60 (D + 3) mm_r194 0 [some (.retAddr (1 + 10)), some (dz_I 2)] [] h = some (some (dz_I 111), h) := rfl
theorem jw_ch_10_3 : mm_x X 60 (D + 3) mm_r194 0 [some (.retAddr (1 + 10)), some (dz_I 3)] [] h = some (some (dz_I 122), h) := rfl
theorem jw_ch_10_4 : mm_x X 60 (D + 3) mm_r194 0 [some (.retAddr (1 + 10)), some (dz_I 4)] [] h = some (some (dz_I 101), h) := rfl
theorem jw_ch_10_5 : mm_x X 60 (D + 3) mm_r194 0 [some (.retAddr (1 + 10)), some (dz_I 5)] [] h = some (some (dz_I 110), h) := rfl
theorem jw_ch_11_0 : mm_x X 60 (D + 3) mm_r194 0 [some (.retAddr (1 + 11)), some (dz_I 0)] [] h = some (some (dz_I 114), h) := rfl
theorem jw_ch_11_1 : mm_x X 60 (D + 3) mm_r194 0 [some (.retAddr (1 + 11)), some (dz_I 1)] [] h = some (some (dz_I 97), h) := rfl
theorem jw_ch_11_2 : mm_x X 60 (D + 3) mm_r194 0 [some (.retAddr (1 + 11)), some (dz_I 2)] [] h = some (some (dz_I 105), h) := rfl
theorem jw_ch_11_3 : mm_x X 60 (D + 3) mm_r194 0 [some (.retAddr (1 + 11)), some (dz_I 3)] [] h = some (some (dz_I 110), h) := rfl
theorem jw_ch_12_0 : mm_x X 60 (D + 3) mm_r194 0 [some (.retAddr (1 + 12)), some (dz_I 0)] [] h = some (some (dz_I 116), h) := rfl
theorem jw_ch_12_1 : mm_x X 60 (D + 3) mm_r194 0 [some (.retAddr (1 + 12)), some (dz_I 1)] [] h = some (some (dz_I 117), h) := rfl
theorem jw_ch_12_2 : mm_x X 60 (D + 3) mm_r194 0 [some (.retAddr (1 + 12)), some (dz_I 2)] [] h = some (some (dz_I 110), h) := rfl
theorem jw_ch_12_3 : mm_x X 60 (D + 3) mm_r194 0 [some (.retAddr (1 + 12)), some (dz_I 3)] [] h = some (some (dz_I 101), h) := rfl
theorem jw_ch_13_0 : mm_x X 60 (D + 3) mm_r194 0 [some (.retAddr (1 + 13)), some (dz_I 0)] [] h = some (some (dz_I 115), h) := rfl
theorem jw_ch_13_1 : mm_x X 60 (D + 3) mm_r194 0 [some (.retAddr (1 + 13)), some (dz_I 1)] [] h = some (some (dz_I 108), h) := rfl
theorem jw_ch_13_2 : mm_x X 60 (D + 3) mm_r194 0 [some (.retAddr (1 + 13)), some (dz_I 2)] [] h = some (some (dz_I 101), h) := rfl
theorem jw_ch_13_3 : mm_x X 60 (D + 3) mm_r194 0 [some (.retAddr (1 + 13)), some (dz_I 3)] [] h = some (some (dz_I 101), h) := rfl
theorem jw_ch_13_4 : mm_x X 60 (D + 3) mm_r194 0 [some (.retAddr (1 + 13)), some (dz_I 4)] [] h = some (some (dz_I 112), h) := rfl
theorem jw_ch_14_0 : mm_x X 60 (D + 3) mm_r194 0 [some (.retAddr (1 + 14)), some (dz_I 0)] [] h = some (some (dz_I 119), h) := rfl
theorem jw_ch_14_1 : mm_x X 60 (D + 3) mm_r194 0 [some (.retAddr (1 + 14)), some (dz_I 1)] [] h = some (some (dz_I 101), h) := rfl
theorem jw_ch_14_2 : mm_x X 60 (D + 3) mm_r194 0 [some (.retAddr (1 + 14)), some (dz_I 2)] [] h = some (some (dz_I 97), h) := rfl
theorem jw_ch_14_3 : mm_x X 60 (D + 3) mm_r194 0 [some (.retAddr (1 + 14)), some (dz_I 3)] [] h = some (some (dz_I 114), h) := rfl
theorem jw_chr {t : Nat} (ht : t < 15) {j j' : Int} (hj : dz_c j = j') (h0 : 0 ≤ j') (h1 : j' < jf_len t) (k : Q (some (dz_I (jf_chr t j'))) h) : mm_Wp X (D + 3) mm_r194 0 [some (.retAddr (1 + t)), some (dz_I j)] [] h Q := by
  have e : dz_I j = dz_I j' := by rw [← hj]; exact congrArg Value.int (dz_cx j).symm
  rw [e]
  obtain ⟨i, rfl⟩ : ∃ i : Nat, j' = (i : Int) := ⟨j'.toNat, by omega⟩
  match t, ht with
  | 0, _ =>
    have hi : i < 4 := by have := h1; change (i : Int) < 4 at this; omega
    match i, hi with
    | 0, _ => exact ⟨60, _, h, jw_ch_0_0, k⟩
    | 1, _ => exact ⟨60, _, h, jw_ch_0_1, k⟩
    | 2, _ => exact ⟨60, _, h, jw_ch_0_2, k⟩
    | 3, _ => exact ⟨60, _, h, jw_ch_0_3, k⟩
    | i + 4, hi => exact absurd hi (by omega)
  | 1, _ =>
    have hi : i < 3 := by have := h1; change (i : Int) < 3 at this; omega
    match i, hi with
    | 0, _ => exact ⟨60, _, h, jw_ch_1_0, k⟩
    | 1, _ => exact ⟨60, _, h, jw_ch_1_1, k⟩
    | 2, _ => exact ⟨60, _, h, jw_ch_1_2, k⟩
    | i + 3, hi => exact absurd hi (by omega)
  | 2, _ =>
    have hi : i < 6 := by have := h1; change (i : Int) < 6 at this; omega
    match i, hi with
    | 0, _ => exact ⟨60, _, h, jw_ch_2_0, k⟩
    | 1, _ => exact ⟨60, _, h, jw_ch_2_1, k⟩
    | 2, _ => exact ⟨60, _, h, jw_ch_2_2, k⟩
    | 3, _ => exact ⟨60, _, h, jw_ch_2_3, k⟩
    | 4, _ => exact ⟨60, _, h, jw_ch_2_4, k⟩
    | 5, _ => exact ⟨60, _, h, jw_ch_2_5, k⟩
    | i + 6, hi => exact absurd hi (by omega)
  | 3, _ =>
    have hi : i < 5 := by have := h1; change (i : Int) < 5 at this; omega
    match i, hi with
    | 0, _ => exact ⟨60, _, h, jw_ch_3_0, k⟩
    | 1, _ => exact ⟨60, _, h, jw_ch_3_1, k⟩
    | 2, _ => exact ⟨60, _, h, jw_ch_3_2, k⟩
    | 3, _ => exact ⟨60, _, h, jw_ch_3_3, k⟩
    | 4, _ => exact ⟨60, _, h, jw_ch_3_4, k⟩
    | i + 5, hi => exact absurd hi (by omega)
  | 4, _ =>
    have hi : i < 6 := by have := h1; change (i : Int) < 6 at this; omega
    match i, hi with
    | 0, _ => exact ⟨60, _, h, jw_ch_4_0, k⟩
    | 1, _ => exact ⟨60, _, h, jw_ch_4_1, k⟩
    | 2, _ => exact ⟨60, _, h, jw_ch_4_2, k⟩
    | 3, _ => exact ⟨60, _, h, jw_ch_4_3, k⟩
    | 4, _ => exact ⟨60, _, h, jw_ch_4_4, k⟩
    | 5, _ => exact ⟨60, _, h, jw_ch_4_5, k⟩
    | i + 6, hi => exact absurd hi (by omega)
  | 5, _ =>
    have hi : i < 5 := by have := h1; change (i : Int) < 5 at this; omega
    match i, hi with
    | 0, _ => exact ⟨60, _, h, jw_ch_5_0, k⟩
    | 1, _ => exact ⟨60, _, h, jw_ch_5_1, k⟩
    | 2, _ => exact ⟨60, _, h, jw_ch_5_2, k⟩
    | 3, _ => exact ⟨60, _, h, jw_ch_5_3, k⟩
    | 4, _ => exact ⟨60, _, h, jw_ch_5_4, k⟩
    | i + 5, hi => exact absurd hi (by omega)
  | 6, _ =>
    have hi : i < 3 := by have := h1; change (i : Int) < 3 at this; omega
    match i, hi with
    | 0, _ => exact ⟨60, _, h, jw_ch_6_0, k⟩
    | 1, _ => exact ⟨60, _, h, jw_ch_6_1, k⟩
    | 2, _ => exact ⟨60, _, h, jw_ch_6_2, k⟩
    | i + 3, hi => exact absurd hi (by omega)
  | 7, _ =>
    have hi : i < 4 := by have := h1; change (i : Int) < 4 at this; omega
    match i, hi with
    | 0, _ => exact ⟨60, _, h, jw_ch_7_0, k⟩
    | 1, _ => exact ⟨60, _, h, jw_ch_7_1, k⟩
    | 2, _ => exact ⟨60, _, h, jw_ch_7_2, k⟩
    | 3, _ => exact ⟨60, _, h, jw_ch_7_3, k⟩
    | i + 4, hi => exact absurd hi (by omega)
  | 8, _ =>
    have hi : i < 4 := by have := h1; change (i : Int) < 4 at this; omega
    match i, hi with
    | 0, _ => exact ⟨60, _, h, jw_ch_8_0, k⟩
    | 1, _ => exact ⟨60, _, h, jw_ch_8_1, k⟩
    | 2, _ => exact ⟨60, _, h, jw_ch_8_2, k⟩
    | 3, _ => exact ⟨60, _, h, jw_ch_8_3, k⟩
    | i + 4, hi => exact absurd hi (by omega)
  | 9, _ =>
    have hi : i < 4 := by have := h1; change (i : Int) < 4 at this; omega
    match i, hi with
    | 0, _ => exact ⟨60, _, h, jw_ch_9_0, k⟩
    | 1, _ => exact ⟨60, _, h, jw_ch_9_1, k⟩
    | 2, _ => exact ⟨60, _, h, jw_ch_9_2, k⟩
    | 3, _ => exact ⟨60, _, h, jw_ch_9_3, k⟩
    | i + 4, hi => exact absurd hi (by omega)
  | 10, _ =>
    have hi : i < 6 := by have := h1; change (i : Int) < 6 at this; omega
    match i, hi with
    | 0, _ => exact ⟨60, _, h, jw_ch_10_0, k⟩
    | 1, _ => exact ⟨60, _, h, jw_ch_10_1, k⟩
    | 2, _ => exact ⟨60, _, h, jw_ch_10_2, k⟩
    | 3, _ => exact ⟨60, _, h, jw_ch_10_3, k⟩
    | 4, _ => exact ⟨60, _, h, jw_ch_10_4, k⟩
    | 5, _ => exact ⟨60, _, h, jw_ch_10_5, k⟩
    | i + 6, hi => exact absurd hi (by omega)
  | 11, _ =>
    have hi : i < 4 := by have := h1; change (i : Int) < 4 at this; omega
    match i, hi with
    | 0, _ => exact ⟨60, _, h, jw_ch_11_0, k⟩
    | 1, _ => exact ⟨60, _, h, jw_ch_11_1, k⟩
    | 2, _ => exact ⟨60, _, h, jw_ch_11_2, k⟩
    | 3, _ => exact ⟨60, _, h, jw_ch_11_3, k⟩
    | i + 4, hi => exact absurd hi (by omega)
  | 12, _ =>
    have hi : i < 4 := by have := h1; change (i : Int) < 4 at this; omega
    match i, hi with
    | 0, _ => exact ⟨60, _, h, jw_ch_12_0, k⟩
    | 1, _ => exact ⟨60, _, h, jw_ch_12_1, k⟩
    | 2, _ => exact ⟨60, _, h, jw_ch_12_2, k⟩
    | 3, _ => exact ⟨60, _, h, jw_ch_12_3, k⟩
    | i + 4, hi => exact absurd hi (by omega)
  | 13, _ =>
    have hi : i < 5 := by have := h1; change (i : Int) < 5 at this; omega
    match i, hi with
    | 0, _ => exact ⟨60, _, h, jw_ch_13_0, k⟩
    | 1, _ => exact ⟨60, _, h, jw_ch_13_1, k⟩
    | 2, _ => exact ⟨60, _, h, jw_ch_13_2, k⟩
    | 3, _ => exact ⟨60, _, h, jw_ch_13_3, k⟩
    | 4, _ => exact ⟨60, _, h, jw_ch_13_4, k⟩
    | i + 5, hi => exact absurd hi (by omega)
  | 14, _ =>
    have hi : i < 4 := by have := h1; change (i : Int) < 4 at this; omega
    match i, hi with
    | 0, _ => exact ⟨60, _, h, jw_ch_14_0, k⟩
    | 1, _ => exact ⟨60, _, h, jw_ch_14_1, k⟩
    | 2, _ => exact ⟨60, _, h, jw_ch_14_2, k⟩
    | 3, _ => exact ⟨60, _, h, jw_ch_14_3, k⟩
    | i + 4, hi => exact absurd hi (by omega)
  | t + 15, ht => exact absurd ht (by omega)
end hand
