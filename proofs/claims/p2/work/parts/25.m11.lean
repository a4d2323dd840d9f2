-- 143
def jf_M_peg (a1 : Int) (a2 : Int) (Z : dz_Z) : Option (Int × dz_Z) := Option.bind (jf_M_isGutter a1 Z) fun q1 => if q1 = false then (some ((-1), Z)) else (if 0 ≤ dz_c a2 ∧ dz_c a2 ≤ 2 then (if 0 ≤ dz_c (0 + a1) ∧ dz_c (0 + a1) < 700 then dz_a (dz_u Z 114 0 (dz_c (0 + a1)) a2) fun Z5 => some (Z 114 0 (dz_c (0 + a1)), Z5) else none) else (some ((-1), Z)))
set_option maxRecDepth 20000 in
theorem jw_M_peg {X : Option (List Int32)} {D : Nat} {Q : Option Value → mm_H → Prop} (a1 : Int) (a2 : Int) (Z : dz_Z) (H : dz_p (jf_M_peg a1 a2 Z) (fun q => Q (some (dz_I q.1)) (hz_0 q.2))) : mm_Wp X (D + 2) mm_r143 0 [some (.ref 114), some (dz_I a1), some (dz_I a2), none] [] (hz_0 Z) Q := by
  unfold jf_M_peg at H
  refine wp_s (i := .aload_n 0) (n := 1) (pc' := 1) (st' := [.ref 114]) rfl rfl ?_
  refine wp_s (i := .iload_n 1) (n := 1) (pc' := 2) (st' := [dz_I a1, .ref 114]) rfl rfl ?_
  refine wq_cv (Dq := (D + 1)) (r' := mm_r138) (as0 := [dz_I a1]) (rest := []) (ls' := [some (.ref 114), some (dz_I a1)]) (pc' := 5) rfl rfl rfl rfl ho_M rfl rfl rfl ?_
  refine jw_M_isGutter (X := X) (D := D + 0) a1 Z (dz_pm (dz_bi H) (fun q1 H => ?_))
  show mm_Wp X (D + 2) mm_r143 5 [some (.ref 114), some (dz_I a1), some (dz_I a2), none] [dz_B q1] (hz_0 Z) Q
  refine wq_if (p := q1 = false) (tt := 20) (pc' := 8) rfl rfl (cb_eq) rfl (fun c2 => ?_) (fun c2 => ?_)
  · replace H := dz_it c2 H
    refine wp_s (i := .iconst (-1)) (n := 1) (pc' := 21) (st' := [dz_I (-1)]) rfl rfl ?_
    refine wq_ri rfl rfl ?_
    replace H := dz_sm H
    exact H
  · replace H := dz_if c2 H
    refine wp_s (i := .iload_n 2) (n := 1) (pc' := 9) (st' := [dz_I a2]) rfl rfl ?_
    refine wq_3 (i := .i2l) (v' := dz_J (dz_c a2)) (pc' := 10) rfl rfl (oq_i2l' rfl) rfl ?_
    refine wp_s (i := .lconst 0) (n := 1) (pc' := 11) (st' := [dz_J 0, dz_J (dz_c a2)]) rfl rfl ?_
    refine wp_s (i := .ldc2_w 198) (n := 3) (pc' := 14) (st' := [dz_J 2, dz_J 0, dz_J (dz_c a2)]) rfl rfl ?_
    refine wq_cs (Dq := (D + 1)) (r' := mm_r120) (as0 := [dz_J (dz_c a2), dz_J 0, dz_J 2]) (rest := []) (ls' := [some (dz_J (dz_c a2)), none, some (dz_J 0), none, some (dz_J 2), none]) (pc' := 17) rfl rfl (by decide) rfl rfl rfl rfl rfl ?_
    refine jw_in (a' := dz_c a2) (b' := 0) (c' := 2) (dz_lc _) (by decide) (by decide) ?_
    show mm_Wp X (D + 2) mm_r143 17 [some (.ref 114), some (dz_I a1), some (dz_I a2), none] [dz_B (decide (0 ≤ dz_c a2 ∧ dz_c a2 ≤ 2))] (hz_0 Z) Q
    refine wq_if (p := 0 ≤ dz_c a2 ∧ dz_c a2 ≤ 2) (tt := 22) (pc' := 20) rfl rfl (cd_ne) rfl (fun c3 => ?_) (fun c3 => ?_)
    · replace H := dz_it c3 H
      refine wp_s (i := .aload_n 0) (n := 1) (pc' := 23) (st' := [.ref 114]) rfl rfl ?_
      refine wq_gr (idx := 7) (a := 115) (pc' := 26) rfl rfl ho_M rfl rfl ?_
      refine wp_s (i := .iconst 0) (n := 1) (pc' := 27) (st' := [dz_I 0, .ref 115]) rfl rfl ?_
      refine wp_s (i := .iload_n 1) (n := 1) (pc' := 28) (st' := [dz_I a1, dz_I 0, .ref 115]) rfl rfl ?_
      refine wq_2 (i := .iadd) (z := 0 + a1) (pc' := 29) rfl rfl (op_add _ _) rfl ?_
      obtain ⟨k4, H⟩ := dz_ck H
      refine wq_ia (j' := dz_c (0 + a1)) (pc' := 30) rfl ha_M_0 rfl k4.1 k4.2 rfl ?_
      refine wq_st (k := 3) (i := .istore_n 3) (n := 1) (ls' := [some (.ref 114), some (dz_I a1), some (dz_I a2), some (dz_I (Z 114 0 (dz_c (0 + a1))))]) (pc' := 31) rfl rfl rfl rfl rfl ?_
      refine wp_s (i := .aload_n 0) (n := 1) (pc' := 32) (st' := [.ref 114]) rfl rfl ?_
      refine wq_gr (idx := 7) (a := 115) (pc' := 35) rfl rfl ho_M rfl rfl ?_
      refine wp_s (i := .iconst 0) (n := 1) (pc' := 36) (st' := [dz_I 0, .ref 115]) rfl rfl ?_
      refine wp_s (i := .iload_n 1) (n := 1) (pc' := 37) (st' := [dz_I a1, dz_I 0, .ref 115]) rfl rfl ?_
      refine wq_2 (i := .iadd) (z := 0 + a1) (pc' := 38) rfl rfl (op_add _ _) rfl ?_
      refine wp_s (i := .iload_n 2) (n := 1) (pc' := 39) (st' := [dz_I a2, dz_I (0 + a1), .ref 115]) rfl rfl ?_
      refine wq_is (j' := dz_c (0 + a1)) (x := a2) (pc' := 40) rfl ha_M_0 rfl k4.1 k4.2 rfl (fun Z5 eZ5 => ?_)
      replace H := dz_le H Z5 eZ5
      clear eZ5
      refine wp_s (i := .iload_n 3) (n := 1) (pc' := 41) (st' := [dz_I (Z 114 0 (dz_c (0 + a1)))]) rfl rfl ?_
      refine wq_ri rfl rfl ?_
      replace H := dz_sm H
      exact H
    · replace H := dz_if c3 H
      refine wp_s (i := .iconst (-1)) (n := 1) (pc' := 21) (st' := [dz_I (-1)]) rfl rfl ?_
      refine wq_ri rfl rfl ?_
      replace H := dz_sm H
      exact H
-- 144
def jf_M_block (a1 : Int) (a2 : Int) (Z : dz_Z) : Option (Int × dz_Z) := Option.bind (jf_M_isGutter a1 Z) fun q1 => if q1 = true then (if 0 ≤ dz_c (5 + a1) ∧ dz_c (5 + a1) < 700 then if dz_c a2 = 0 then (dz_a (dz_u Z 114 0 (dz_c (5 + a1)) 0) fun Z5 => some (Z 114 0 (dz_c (5 + a1)), Z5)) else (dz_a (dz_u Z 114 0 (dz_c (5 + a1)) 1) fun Z6 => some (Z 114 0 (dz_c (5 + a1)), Z6)) else none) else (some ((-1), Z))
set_option maxRecDepth 20000 in
theorem jw_M_block {X : Option (List Int32)} {D : Nat} {Q : Option Value → mm_H → Prop} (a1 : Int) (a2 : Int) (Z : dz_Z) (H : dz_p (jf_M_block a1 a2 Z) (fun q => Q (some (dz_I q.1)) (hz_0 q.2))) : mm_Wp X (D + 2) mm_r144 0 [some (.ref 114), some (dz_I a1), some (dz_I a2), none] [] (hz_0 Z) Q := by
  unfold jf_M_block at H
  refine wp_s (i := .aload_n 0) (n := 1) (pc' := 1) (st' := [.ref 114]) rfl rfl ?_
  refine wp_s (i := .iload_n 1) (n := 1) (pc' := 2) (st' := [dz_I a1, .ref 114]) rfl rfl ?_
  refine wq_cv (Dq := (D + 1)) (r' := mm_r138) (as0 := [dz_I a1]) (rest := []) (ls' := [some (.ref 114), some (dz_I a1)]) (pc' := 5) rfl rfl rfl rfl ho_M rfl rfl rfl ?_
  refine jw_M_isGutter (X := X) (D := D + 0) a1 Z (dz_pm (dz_bi H) (fun q1 H => ?_))
  show mm_Wp X (D + 2) mm_r144 5 [some (.ref 114), some (dz_I a1), some (dz_I a2), none] [dz_B q1] (hz_0 Z) Q
  refine wq_if (p := q1 = true) (tt := 10) (pc' := 8) rfl rfl (cb_ne) rfl (fun c2 => ?_) (fun c2 => ?_)
  · replace H := dz_it c2 H
    refine wp_s (i := .aload_n 0) (n := 1) (pc' := 11) (st' := [.ref 114]) rfl rfl ?_
    refine wq_gr (idx := 7) (a := 115) (pc' := 14) rfl rfl ho_M rfl rfl ?_
    refine wp_s (i := .iconst 5) (n := 1) (pc' := 15) (st' := [dz_I 5, .ref 115]) rfl rfl ?_
    refine wp_s (i := .iload_n 1) (n := 1) (pc' := 16) (st' := [dz_I a1, dz_I 5, .ref 115]) rfl rfl ?_
    refine wq_2 (i := .iadd) (z := 5 + a1) (pc' := 17) rfl rfl (op_add _ _) rfl ?_
    obtain ⟨k3, H⟩ := dz_ck H
    refine wq_ia (j' := dz_c (5 + a1)) (pc' := 18) rfl ha_M_0 rfl k3.1 k3.2 rfl ?_
    refine wq_st (k := 3) (i := .istore_n 3) (n := 1) (ls' := [some (.ref 114), some (dz_I a1), some (dz_I a2), some (dz_I (Z 114 0 (dz_c (5 + a1))))]) (pc' := 19) rfl rfl rfl rfl rfl ?_
    refine wp_s (i := .aload_n 0) (n := 1) (pc' := 20) (st' := [.ref 114]) rfl rfl ?_
    refine wq_gr (idx := 7) (a := 115) (pc' := 23) rfl rfl ho_M rfl rfl ?_
    refine wp_s (i := .iconst 5) (n := 1) (pc' := 24) (st' := [dz_I 5, .ref 115]) rfl rfl ?_
    refine wp_s (i := .iload_n 1) (n := 1) (pc' := 25) (st' := [dz_I a1, dz_I 5, .ref 115]) rfl rfl ?_
    refine wq_2 (i := .iadd) (z := 5 + a1) (pc' := 26) rfl rfl (op_add _ _) rfl ?_
    refine wp_s (i := .iload_n 2) (n := 1) (pc' := 27) (st' := [dz_I a2, dz_I (5 + a1), .ref 115]) rfl rfl ?_
    refine wq_if (p := dz_c a2 = 0) (tt := 34) (pc' := 30) rfl rfl (cz_eq rfl) rfl (fun c4 => ?_) (fun c4 => ?_)
    · replace H := dz_it c4 H
      refine wp_s (i := .iconst 0) (n := 1) (pc' := 35) (st' := [dz_I 0, dz_I (5 + a1), .ref 115]) rfl rfl ?_
      refine wq_is (j' := dz_c (5 + a1)) (x := 0) (pc' := 36) rfl ha_M_0 rfl k3.1 k3.2 rfl (fun Z5 eZ5 => ?_)
      replace H := dz_le H Z5 eZ5
      clear eZ5
      refine wp_s (i := .iload_n 3) (n := 1) (pc' := 37) (st' := [dz_I (Z 114 0 (dz_c (5 + a1)))]) rfl rfl ?_
      refine wq_ri rfl rfl ?_
      replace H := dz_sm H
      exact H
    · replace H := dz_if c4 H
      refine wp_s (i := .iconst 1) (n := 1) (pc' := 31) (st' := [dz_I 1, dz_I (5 + a1), .ref 115]) rfl rfl ?_
      refine wp_s (i := .goto 4) (n := 3) (pc' := 35) (st' := [dz_I 1, dz_I (5 + a1), .ref 115]) rfl rfl ?_
      refine wq_is (j' := dz_c (5 + a1)) (x := 1) (pc' := 36) rfl ha_M_0 rfl k3.1 k3.2 rfl (fun Z6 eZ6 => ?_)
      replace H := dz_le H Z6 eZ6
      clear eZ6
      refine wp_s (i := .iload_n 3) (n := 1) (pc' := 37) (st' := [dz_I (Z 114 0 (dz_c (5 + a1)))]) rfl rfl ?_
      refine wq_ri rfl rfl ?_
      replace H := dz_sm H
      exact H
  · replace H := dz_if c2 H
    refine wp_s (i := .iconst (-1)) (n := 1) (pc' := 9) (st' := [dz_I (-1)]) rfl rfl ?_
    refine wq_ri rfl rfl ?_
    replace H := dz_sm H
    exact H
-- 145
def jf_M_cup (a1 : Int) (a2 : Int) (Z : dz_Z) : Option (Int × dz_Z) := Option.bind (jf_M_isSpout a1 Z) fun q1 => if q1 = false then (some ((-1), Z)) else (if dz_c a2 = 0 then (if 0 ≤ dz_c (10 + a1) ∧ dz_c (10 + a1) < 700 then dz_a (dz_u Z 114 0 (dz_c (10 + a1)) a2) fun Z5 => if 0 ≤ dz_c (18 + a1) ∧ dz_c (18 + a1) < 700 then dz_a (dz_u Z5 114 0 (dz_c (18 + a1)) 0) fun Z7 => if 0 ≤ dz_c (26 + a1) ∧ dz_c (26 + a1) < 700 then dz_a (dz_u Z7 114 0 (dz_c (26 + a1)) (-4)) fun Z9 => if 0 ≤ dz_c (86 + a1) ∧ dz_c (86 + a1) < 700 then dz_a (dz_u Z9 114 0 136 ((Z9 114 0 136) + (Z9 114 0 (dz_c (86 + a1))))) fun Z11 => dz_a (dz_u Z11 114 0 (dz_c (86 + a1)) 0) fun Z12 => if 0 ≤ dz_c (94 + a1) ∧ dz_c (94 + a1) < 700 then dz_a (dz_u Z12 114 0 (dz_c (94 + a1)) 0) fun Z14 => some (Z 114 0 (dz_c (10 + a1)), Z14) else none else none else none else none else none) else (if dz_c a2 = 5 then (if 0 ≤ dz_c (10 + a1) ∧ dz_c (10 + a1) < 700 then dz_a (dz_u Z 114 0 (dz_c (10 + a1)) a2) fun Z17 => if 0 ≤ dz_c (18 + a1) ∧ dz_c (18 + a1) < 700 then dz_a (dz_u Z17 114 0 (dz_c (18 + a1)) 0) fun Z19 => if 0 ≤ dz_c (26 + a1) ∧ dz_c (26 + a1) < 700 then dz_a (dz_u Z19 114 0 (dz_c (26 + a1)) (-4)) fun Z21 => if 0 ≤ dz_c (86 + a1) ∧ dz_c (86 + a1) < 700 then dz_a (dz_u Z21 114 0 136 ((Z21 114 0 136) + (Z21 114 0 (dz_c (86 + a1))))) fun Z23 => dz_a (dz_u Z23 114 0 (dz_c (86 + a1)) 0) fun Z24 => if 0 ≤ dz_c (94 + a1) ∧ dz_c (94 + a1) < 700 then dz_a (dz_u Z24 114 0 (dz_c (94 + a1)) 0) fun Z26 => some (Z 114 0 (dz_c (10 + a1)), Z26) else none else none else none else none else none) else (some ((-1), Z))))
set_option maxRecDepth 20000 in
theorem jw_M_cup {X : Option (List Int32)} {D : Nat} {Q : Option Value → mm_H → Prop} (a1 : Int) (a2 : Int) (Z : dz_Z) (H : dz_p (jf_M_cup a1 a2 Z) (fun q => Q (some (dz_I q.1)) (hz_0 q.2))) : mm_Wp X (D + 2) mm_r145 0 [some (.ref 114), some (dz_I a1), some (dz_I a2), none] [] (hz_0 Z) Q := by
  unfold jf_M_cup at H
  refine wp_s (i := .aload_n 0) (n := 1) (pc' := 1) (st' := [.ref 114]) rfl rfl ?_
  refine wp_s (i := .iload_n 1) (n := 1) (pc' := 2) (st' := [dz_I a1, .ref 114]) rfl rfl ?_
  refine wq_cv (Dq := (D + 1)) (r' := mm_r139) (as0 := [dz_I a1]) (rest := []) (ls' := [some (.ref 114), some (dz_I a1)]) (pc' := 5) rfl rfl rfl rfl ho_M rfl rfl rfl ?_
  refine jw_M_isSpout (X := X) (D := D + 0) a1 Z (dz_pm (dz_bi H) (fun q1 H => ?_))
  show mm_Wp X (D + 2) mm_r145 5 [some (.ref 114), some (dz_I a1), some (dz_I a2), none] [dz_B q1] (hz_0 Z) Q
  refine wq_if (p := q1 = false) (tt := 17) (pc' := 8) rfl rfl (cb_eq) rfl (fun c2 => ?_) (fun c2 => ?_)
  · replace H := dz_it c2 H
    refine wp_s (i := .iconst (-1)) (n := 1) (pc' := 18) (st' := [dz_I (-1)]) rfl rfl ?_
    refine wq_ri rfl rfl ?_
    replace H := dz_sm H
    exact H
  · replace H := dz_if c2 H
    refine wp_s (i := .iload_n 2) (n := 1) (pc' := 9) (st' := [dz_I a2]) rfl rfl ?_
    refine wq_if (p := dz_c a2 = 0) (tt := 19) (pc' := 12) rfl rfl (cz_eq rfl) rfl (fun c3 => ?_) (fun c3 => ?_)
    · replace H := dz_it c3 H
      refine wp_s (i := .aload_n 0) (n := 1) (pc' := 20) (st' := [.ref 114]) rfl rfl ?_
      refine wq_gr (idx := 7) (a := 115) (pc' := 23) rfl rfl ho_M rfl rfl ?_
      refine wp_s (i := .bipush 10) (n := 2) (pc' := 25) (st' := [dz_I 10, .ref 115]) rfl rfl ?_
      refine wp_s (i := .iload_n 1) (n := 1) (pc' := 26) (st' := [dz_I a1, dz_I 10, .ref 115]) rfl rfl ?_
      refine wq_2 (i := .iadd) (z := 10 + a1) (pc' := 27) rfl rfl (op_add _ _) rfl ?_
      obtain ⟨k4, H⟩ := dz_ck H
      refine wq_ia (j' := dz_c (10 + a1)) (pc' := 28) rfl ha_M_0 rfl k4.1 k4.2 rfl ?_
      refine wq_st (k := 3) (i := .istore_n 3) (n := 1) (ls' := [some (.ref 114), some (dz_I a1), some (dz_I a2), some (dz_I (Z 114 0 (dz_c (10 + a1))))]) (pc' := 29) rfl rfl rfl rfl rfl ?_
      refine wp_s (i := .aload_n 0) (n := 1) (pc' := 30) (st' := [.ref 114]) rfl rfl ?_
      refine wq_gr (idx := 7) (a := 115) (pc' := 33) rfl rfl ho_M rfl rfl ?_
      refine wp_s (i := .bipush 10) (n := 2) (pc' := 35) (st' := [dz_I 10, .ref 115]) rfl rfl ?_
      refine wp_s (i := .iload_n 1) (n := 1) (pc' := 36) (st' := [dz_I a1, dz_I 10, .ref 115]) rfl rfl ?_
      refine wq_2 (i := .iadd) (z := 10 + a1) (pc' := 37) rfl rfl (op_add _ _) rfl ?_
      refine wp_s (i := .iload_n 2) (n := 1) (pc' := 38) (st' := [dz_I a2, dz_I (10 + a1), .ref 115]) rfl rfl ?_
      refine wq_is (j' := dz_c (10 + a1)) (x := a2) (pc' := 39) rfl ha_M_0 rfl k4.1 k4.2 rfl (fun Z5 eZ5 => ?_)
      replace H := dz_le H Z5 eZ5
      clear eZ5
      refine wp_s (i := .aload_n 0) (n := 1) (pc' := 40) (st' := [.ref 114]) rfl rfl ?_
      refine wq_gr (idx := 7) (a := 115) (pc' := 43) rfl rfl ho_M rfl rfl ?_
      refine wp_s (i := .bipush 18) (n := 2) (pc' := 45) (st' := [dz_I 18, .ref 115]) rfl rfl ?_
      refine wp_s (i := .iload_n 1) (n := 1) (pc' := 46) (st' := [dz_I a1, dz_I 18, .ref 115]) rfl rfl ?_
      refine wq_2 (i := .iadd) (z := 18 + a1) (pc' := 47) rfl rfl (op_add _ _) rfl ?_
      refine wp_s (i := .iconst 0) (n := 1) (pc' := 48) (st' := [dz_I 0, dz_I (18 + a1), .ref 115]) rfl rfl ?_
      obtain ⟨k6, H⟩ := dz_ck H
      refine wq_is (j' := dz_c (18 + a1)) (x := 0) (pc' := 49) rfl ha_M_0 rfl k6.1 k6.2 rfl (fun Z7 eZ7 => ?_)
      replace H := dz_le H Z7 eZ7
      clear eZ7
      refine wp_s (i := .aload_n 0) (n := 1) (pc' := 50) (st' := [.ref 114]) rfl rfl ?_
      refine wq_gr (idx := 7) (a := 115) (pc' := 53) rfl rfl ho_M rfl rfl ?_
      refine wp_s (i := .bipush 26) (n := 2) (pc' := 55) (st' := [dz_I 26, .ref 115]) rfl rfl ?_
      refine wp_s (i := .iload_n 1) (n := 1) (pc' := 56) (st' := [dz_I a1, dz_I 26, .ref 115]) rfl rfl ?_
      refine wq_2 (i := .iadd) (z := 26 + a1) (pc' := 57) rfl rfl (op_add _ _) rfl ?_
      refine wp_s (i := .bipush (-4)) (n := 2) (pc' := 59) (st' := [dz_I (-4), dz_I (26 + a1), .ref 115]) rfl rfl ?_
      obtain ⟨k8, H⟩ := dz_ck H
      refine wq_is (j' := dz_c (26 + a1)) (x := (-4)) (pc' := 60) rfl ha_M_0 rfl k8.1 k8.2 rfl (fun Z9 eZ9 => ?_)
      replace H := dz_le H Z9 eZ9
      clear eZ9
      refine wp_s (i := .aload_n 0) (n := 1) (pc' := 61) (st' := [.ref 114]) rfl rfl ?_
      refine wq_gr (idx := 7) (a := 115) (pc' := 64) rfl rfl ho_M rfl rfl ?_
      refine wp_s (i := .sipush 136) (n := 3) (pc' := 67) (st' := [dz_I 136, .ref 115]) rfl rfl ?_
      refine wp_s (i := .dup2) (n := 1) (pc' := 68) (st' := [dz_I 136, .ref 115, dz_I 136, .ref 115]) rfl rfl ?_
      refine wq_ia (j' := 136) (pc' := 69) rfl ha_M_0 dk_136 (by decide) (by decide) rfl ?_
      refine wp_s (i := .aload_n 0) (n := 1) (pc' := 70) (st' := [.ref 114, dz_I (Z9 114 0 136), dz_I 136, .ref 115]) rfl rfl ?_
      refine wq_gr (idx := 7) (a := 115) (pc' := 73) rfl rfl ho_M rfl rfl ?_
      refine wp_s (i := .bipush 86) (n := 2) (pc' := 75) (st' := [dz_I 86, .ref 115, dz_I (Z9 114 0 136), dz_I 136, .ref 115]) rfl rfl ?_
      refine wp_s (i := .iload_n 1) (n := 1) (pc' := 76) (st' := [dz_I a1, dz_I 86, .ref 115, dz_I (Z9 114 0 136), dz_I 136, .ref 115]) rfl rfl ?_
      refine wq_2 (i := .iadd) (z := 86 + a1) (pc' := 77) rfl rfl (op_add _ _) rfl ?_
      obtain ⟨k10, H⟩ := dz_ck H
      refine wq_ia (j' := dz_c (86 + a1)) (pc' := 78) rfl ha_M_0 rfl k10.1 k10.2 rfl ?_
      refine wq_2 (i := .iadd) (z := (Z9 114 0 136) + (Z9 114 0 (dz_c (86 + a1)))) (pc' := 79) rfl rfl (op_add _ _) rfl ?_
      refine wq_is (j' := 136) (x := (Z9 114 0 136) + (Z9 114 0 (dz_c (86 + a1)))) (pc' := 80) rfl ha_M_0 dk_136 (by decide) (by decide) rfl (fun Z11 eZ11 => ?_)
      replace H := dz_le H Z11 eZ11
      clear eZ11
      refine wp_s (i := .aload_n 0) (n := 1) (pc' := 81) (st' := [.ref 114]) rfl rfl ?_
      refine wq_gr (idx := 7) (a := 115) (pc' := 84) rfl rfl ho_M rfl rfl ?_
      refine wp_s (i := .bipush 86) (n := 2) (pc' := 86) (st' := [dz_I 86, .ref 115]) rfl rfl ?_
      refine wp_s (i := .iload_n 1) (n := 1) (pc' := 87) (st' := [dz_I a1, dz_I 86, .ref 115]) rfl rfl ?_
      refine wq_2 (i := .iadd) (z := 86 + a1) (pc' := 88) rfl rfl (op_add _ _) rfl ?_
      refine wp_s (i := .iconst 0) (n := 1) (pc' := 89) (st' := [dz_I 0, dz_I (86 + a1), .ref 115]) rfl rfl ?_
      refine wq_is (j' := dz_c (86 + a1)) (x := 0) (pc' := 90) rfl ha_M_0 rfl k10.1 k10.2 rfl (fun Z12 eZ12 => ?_)
      replace H := dz_le H Z12 eZ12
      clear eZ12
      refine wp_s (i := .aload_n 0) (n := 1) (pc' := 91) (st' := [.ref 114]) rfl rfl ?_
      refine wq_gr (idx := 7) (a := 115) (pc' := 94) rfl rfl ho_M rfl rfl ?_
      refine wp_s (i := .bipush 94) (n := 2) (pc' := 96) (st' := [dz_I 94, .ref 115]) rfl rfl ?_
      refine wp_s (i := .iload_n 1) (n := 1) (pc' := 97) (st' := [dz_I a1, dz_I 94, .ref 115]) rfl rfl ?_
      refine wq_2 (i := .iadd) (z := 94 + a1) (pc' := 98) rfl rfl (op_add _ _) rfl ?_
      refine wp_s (i := .iconst 0) (n := 1) (pc' := 99) (st' := [dz_I 0, dz_I (94 + a1), .ref 115]) rfl rfl ?_
      obtain ⟨k13, H⟩ := dz_ck H
      refine wq_is (j' := dz_c (94 + a1)) (x := 0) (pc' := 100) rfl ha_M_0 rfl k13.1 k13.2 rfl (fun Z14 eZ14 => ?_)
      replace H := dz_le H Z14 eZ14
      clear eZ14
      refine wp_s (i := .iload_n 3) (n := 1) (pc' := 101) (st' := [dz_I (Z 114 0 (dz_c (10 + a1)))]) rfl rfl ?_
      refine wq_ri rfl rfl ?_
      replace H := dz_sm H
      exact H
    · replace H := dz_if c3 H
      refine wp_s (i := .iload_n 2) (n := 1) (pc' := 13) (st' := [dz_I a2]) rfl rfl ?_
      refine wp_s (i := .iconst 5) (n := 1) (pc' := 14) (st' := [dz_I 5, dz_I a2]) rfl rfl ?_
      refine wq_ic (p := dz_c a2 = 5) (tt := 19) (pc' := 17) rfl rfl (cq_eq rfl dk_5) rfl (fun c15 => ?_) (fun c15 => ?_)
      · replace H := dz_it c15 H
        refine wp_s (i := .aload_n 0) (n := 1) (pc' := 20) (st' := [.ref 114]) rfl rfl ?_
        refine wq_gr (idx := 7) (a := 115) (pc' := 23) rfl rfl ho_M rfl rfl ?_
        refine wp_s (i := .bipush 10) (n := 2) (pc' := 25) (st' := [dz_I 10, .ref 115]) rfl rfl ?_
        refine wp_s (i := .iload_n 1) (n := 1) (pc' := 26) (st' := [dz_I a1, dz_I 10, .ref 115]) rfl rfl ?_
        refine wq_2 (i := .iadd) (z := 10 + a1) (pc' := 27) rfl rfl (op_add _ _) rfl ?_
        obtain ⟨k16, H⟩ := dz_ck H
        refine wq_ia (j' := dz_c (10 + a1)) (pc' := 28) rfl ha_M_0 rfl k16.1 k16.2 rfl ?_
        refine wq_st (k := 3) (i := .istore_n 3) (n := 1) (ls' := [some (.ref 114), some (dz_I a1), some (dz_I a2), some (dz_I (Z 114 0 (dz_c (10 + a1))))]) (pc' := 29) rfl rfl rfl rfl rfl ?_
        refine wp_s (i := .aload_n 0) (n := 1) (pc' := 30) (st' := [.ref 114]) rfl rfl ?_
        refine wq_gr (idx := 7) (a := 115) (pc' := 33) rfl rfl ho_M rfl rfl ?_
        refine wp_s (i := .bipush 10) (n := 2) (pc' := 35) (st' := [dz_I 10, .ref 115]) rfl rfl ?_
        refine wp_s (i := .iload_n 1) (n := 1) (pc' := 36) (st' := [dz_I a1, dz_I 10, .ref 115]) rfl rfl ?_
        refine wq_2 (i := .iadd) (z := 10 + a1) (pc' := 37) rfl rfl (op_add _ _) rfl ?_
        refine wp_s (i := .iload_n 2) (n := 1) (pc' := 38) (st' := [dz_I a2, dz_I (10 + a1), .ref 115]) rfl rfl ?_
        refine wq_is (j' := dz_c (10 + a1)) (x := a2) (pc' := 39) rfl ha_M_0 rfl k16.1 k16.2 rfl (fun Z17 eZ17 => ?_)
        replace H := dz_le H Z17 eZ17
        clear eZ17
        refine wp_s (i := .aload_n 0) (n := 1) (pc' := 40) (st' := [.ref 114]) rfl rfl ?_
        refine wq_gr (idx := 7) (a := 115) (pc' := 43) rfl rfl ho_M rfl rfl ?_
        refine wp_s (i := .bipush 18) (n := 2) (pc' := 45) (st' := [dz_I 18, .ref 115]) rfl rfl ?_
        refine wp_s (i := .iload_n 1) (n := 1) (pc' := 46) (st' := [dz_I a1, dz_I 18, .ref 115]) rfl rfl ?_
        refine wq_2 (i := .iadd) (z := 18 + a1) (pc' := 47) rfl rfl (op_add _ _) rfl ?_
        refine wp_s (i := .iconst 0) (n := 1) (pc' := 48) (st' := [dz_I 0, dz_I (18 + a1), .ref 115]) rfl rfl ?_
        obtain ⟨k18, H⟩ := dz_ck H
        refine wq_is (j' := dz_c (18 + a1)) (x := 0) (pc' := 49) rfl ha_M_0 rfl k18.1 k18.2 rfl (fun Z19 eZ19 => ?_)
        replace H := dz_le H Z19 eZ19
        clear eZ19
        refine wp_s (i := .aload_n 0) (n := 1) (pc' := 50) (st' := [.ref 114]) rfl rfl ?_
        refine wq_gr (idx := 7) (a := 115) (pc' := 53) rfl rfl ho_M rfl rfl ?_
        refine wp_s (i := .bipush 26) (n := 2) (pc' := 55) (st' := [dz_I 26, .ref 115]) rfl rfl ?_
        refine wp_s (i := .iload_n 1) (n := 1) (pc' := 56) (st' := [dz_I a1, dz_I 26, .ref 115]) rfl rfl ?_
        refine wq_2 (i := .iadd) (z := 26 + a1) (pc' := 57) rfl rfl (op_add _ _) rfl ?_
        refine wp_s (i := .bipush (-4)) (n := 2) (pc' := 59) (st' := [dz_I (-4), dz_I (26 + a1), .ref 115]) rfl rfl ?_
        obtain ⟨k20, H⟩ := dz_ck H
        refine wq_is (j' := dz_c (26 + a1)) (x := (-4)) (pc' := 60) rfl ha_M_0 rfl k20.1 k20.2 rfl (fun Z21 eZ21 => ?_)
        replace H := dz_le H Z21 eZ21
        clear eZ21
        refine wp_s (i := .aload_n 0) (n := 1) (pc' := 61) (st' := [.ref 114]) rfl rfl ?_
        refine wq_gr (idx := 7) (a := 115) (pc' := 64) rfl rfl ho_M rfl rfl ?_
        refine wp_s (i := .sipush 136) (n := 3) (pc' := 67) (st' := [dz_I 136, .ref 115]) rfl rfl ?_
        refine wp_s (i := .dup2) (n := 1) (pc' := 68) (st' := [dz_I 136, .ref 115, dz_I 136, .ref 115]) rfl rfl ?_
        refine wq_ia (j' := 136) (pc' := 69) rfl ha_M_0 dk_136 (by decide) (by decide) rfl ?_
        refine wp_s (i := .aload_n 0) (n := 1) (pc' := 70) (st' := [.ref 114, dz_I (Z21 114 0 136), dz_I 136, .ref 115]) rfl rfl ?_
        refine wq_gr (idx := 7) (a := 115) (pc' := 73) rfl rfl ho_M rfl rfl ?_
        refine wp_s (i := .bipush 86) (n := 2) (pc' := 75) (st' := [dz_I 86, .ref 115, dz_I (Z21 114 0 136), dz_I 136, .ref 115]) rfl rfl ?_
        refine wp_s (i := .iload_n 1) (n := 1) (pc' := 76) (st' := [dz_I a1, dz_I 86, .ref 115, dz_I (Z21 114 0 136), dz_I 136, .ref 115]) rfl rfl ?_
        refine wq_2 (i := .iadd) (z := 86 + a1) (pc' := 77) rfl rfl (op_add _ _) rfl ?_
        obtain ⟨k22, H⟩ := dz_ck H
        refine wq_ia (j' := dz_c (86 + a1)) (pc' := 78) rfl ha_M_0 rfl k22.1 k22.2 rfl ?_
        refine wq_2 (i := .iadd) (z := (Z21 114 0 136) + (Z21 114 0 (dz_c (86 + a1)))) (pc' := 79) rfl rfl (op_add _ _) rfl ?_
        refine wq_is (j' := 136) (x := (Z21 114 0 136) + (Z21 114 0 (dz_c (86 + a1)))) (pc' := 80) rfl ha_M_0 dk_136 (by decide) (by decide) rfl (fun Z23 eZ23 => ?_)
        replace H := dz_le H Z23 eZ23
        clear eZ23
        refine wp_s (i := .aload_n 0) (n := 1) (pc' := 81) (st' := [.ref 114]) rfl rfl ?_
        refine wq_gr (idx := 7) (a := 115) (pc' := 84) rfl rfl ho_M rfl rfl ?_
        refine wp_s (i := .bipush 86) (n := 2) (pc' := 86) (st' := [dz_I 86, .ref 115]) rfl rfl ?_
        refine wp_s (i := .iload_n 1) (n := 1) (pc' := 87) (st' := [dz_I a1, dz_I 86, .ref 115]) rfl rfl ?_
        refine wq_2 (i := .iadd) (z := 86 + a1) (pc' := 88) rfl rfl (op_add _ _) rfl ?_
        refine wp_s (i := .iconst 0) (n := 1) (pc' := 89) (st' := [dz_I 0, dz_I (86 + a1), .ref 115]) rfl rfl ?_
        refine wq_is (j' := dz_c (86 + a1)) (x := 0) (pc' := 90) rfl ha_M_0 rfl k22.1 k22.2 rfl (fun Z24 eZ24 => ?_)
        replace H := dz_le H Z24 eZ24
        clear eZ24
        refine wp_s (i := .aload_n 0) (n := 1) (pc' := 91) (st' := [.ref 114]) rfl rfl ?_
        refine wq_gr (idx := 7) (a := 115) (pc' := 94) rfl rfl ho_M rfl rfl ?_
        refine wp_s (i := .bipush 94) (n := 2) (pc' := 96) (st' := [dz_I 94, .ref 115]) rfl rfl ?_
        refine wp_s (i := .iload_n 1) (n := 1) (pc' := 97) (st' := [dz_I a1, dz_I 94, .ref 115]) rfl rfl ?_
        refine wq_2 (i := .iadd) (z := 94 + a1) (pc' := 98) rfl rfl (op_add _ _) rfl ?_
        refine wp_s (i := .iconst 0) (n := 1) (pc' := 99) (st' := [dz_I 0, dz_I (94 + a1), .ref 115]) rfl rfl ?_
        obtain ⟨k25, H⟩ := dz_ck H
        refine wq_is (j' := dz_c (94 + a1)) (x := 0) (pc' := 100) rfl ha_M_0 rfl k25.1 k25.2 rfl (fun Z26 eZ26 => ?_)
        replace H := dz_le H Z26 eZ26
        clear eZ26
        refine wp_s (i := .iload_n 3) (n := 1) (pc' := 101) (st' := [dz_I (Z 114 0 (dz_c (10 + a1)))]) rfl rfl ?_
        refine wq_ri rfl rfl ?_
        replace H := dz_sm H
        exact H
      · replace H := dz_if c15 H
        refine wp_s (i := .iconst (-1)) (n := 1) (pc' := 18) (st' := [dz_I (-1)]) rfl rfl ?_
        refine wq_ri rfl rfl ?_
        replace H := dz_sm H
        exact H
-- 146
def jf_M_settingMany (Z : dz_Z) : Option (Int) := dz_lp (fun (s1 : Int × Int) => if dz_c (Z 114 2 0) ≤ dz_c s1.2 then (some (Sum.inr s1.1)) else (some (Sum.inl (s1.1 * 3, s1.2 + 1)))) 5000 (1, 0)
set_option maxRecDepth 20000 in
theorem jw_M_settingMany {X : Option (List Int32)} {D : Nat} {Q : Option Value → mm_H → Prop} (Z : dz_Z) (H : dz_p (jf_M_settingMany Z) (fun q => Q (some (dz_I q)) (hz_0 Z))) : mm_Wp X D mm_r146 0 [some (.ref 114), none, none] [] (hz_0 Z) Q := by
  unfold jf_M_settingMany at H
  refine wp_s (i := .iconst 1) (n := 1) (pc' := 1) (st' := [dz_I 1]) rfl rfl ?_
  refine wq_st (k := 1) (i := .istore_n 1) (n := 1) (ls' := [some (.ref 114), some (dz_I 1), none]) (pc' := 2) rfl rfl rfl rfl rfl ?_
  refine wp_s (i := .iconst 0) (n := 1) (pc' := 3) (st' := [dz_I 0]) rfl rfl ?_
  refine wq_st (k := 2) (i := .istore_n 2) (n := 1) (ls' := [some (.ref 114), some (dz_I 1), some (dz_I 0)]) (pc' := 4) rfl rfl rfl rfl rfl ?_
  refine dz_lpi (P := fun (s1 : Int × Int) => mm_Wp X D mm_r146 4 [some (.ref 114), some (dz_I s1.1), some (dz_I s1.2)] [] (hz_0 Z) Q) (fun s1 H => ?_) 5000 (1, 0) H
  refine wp_s (i := .iload_n 2) (n := 1) (pc' := 5) (st' := [dz_I s1.2]) rfl rfl ?_
  refine wp_s (i := .aload_n 0) (n := 1) (pc' := 6) (st' := [.ref 114, dz_I s1.2]) rfl rfl ?_
  refine wq_gi (idx := 167) (pc' := 9) rfl rfl ho_M rfl rfl ?_
  refine wq_ic (p := dz_c (Z 114 2 0) ≤ dz_c s1.2) (tt := 22) (pc' := 12) rfl rfl (cq_ge rfl rfl) rfl (fun c2 => ?_) (fun c2 => ?_)
  · replace H := dz_it c2 H
    refine wp_s (i := .iload_n 1) (n := 1) (pc' := 23) (st' := [dz_I s1.1]) rfl rfl ?_
    refine wq_ri rfl rfl ?_
    replace H := dz_out H
    replace H := dz_sm H
    exact H
  · replace H := dz_if c2 H
    refine wp_s (i := .iload_n 1) (n := 1) (pc' := 13) (st' := [dz_I s1.1]) rfl rfl ?_
    refine wp_s (i := .iconst 3) (n := 1) (pc' := 14) (st' := [dz_I 3, dz_I s1.1]) rfl rfl ?_
    refine wq_2 (i := .imul) (z := s1.1 * 3) (pc' := 15) rfl rfl (op_mul _ _) rfl ?_
    refine wq_st (k := 1) (i := .istore_n 1) (n := 1) (ls' := [some (.ref 114), some (dz_I (s1.1 * 3)), some (dz_I s1.2)]) (pc' := 16) rfl rfl rfl rfl rfl ?_
    refine wq_inc (k := 2) (d := 1) (x := s1.2) (ls' := [some (.ref 114), some (dz_I (s1.1 * 3)), some (dz_I (s1.2 + 1))]) (pc' := 19) rfl rfl rfl rfl ?_
    refine wp_s (i := .goto (-15)) (n := 3) (pc' := 4) (st' := []) rfl rfl ?_
    replace H := dz_back H
    exact H
-- 147
def jf_M_settingsNow (Z : dz_Z) : Option (Int) := dz_lp (fun (s1 : Int × Int) => if dz_c s1.2 < 0 then (some (Sum.inr s1.1)) else (if 0 ≤ dz_c (0 + s1.2) ∧ dz_c (0 + s1.2) < 700 then some (Sum.inl ((3 * s1.1) + (Z 114 0 (dz_c (0 + s1.2))), s1.2 + (-1))) else none)) 5000 (0, (Z 114 2 0) - 1)
set_option maxRecDepth 20000 in
theorem jw_M_settingsNow {X : Option (List Int32)} {D : Nat} {Q : Option Value → mm_H → Prop} (Z : dz_Z) (H : dz_p (jf_M_settingsNow Z) (fun q => Q (some (dz_I q)) (hz_0 Z))) : mm_Wp X D mm_r147 0 [some (.ref 114), none, none] [] (hz_0 Z) Q := by
  unfold jf_M_settingsNow at H
  refine wp_s (i := .iconst 0) (n := 1) (pc' := 1) (st' := [dz_I 0]) rfl rfl ?_
  refine wq_st (k := 1) (i := .istore_n 1) (n := 1) (ls' := [some (.ref 114), some (dz_I 0), none]) (pc' := 2) rfl rfl rfl rfl rfl ?_
  refine wp_s (i := .aload_n 0) (n := 1) (pc' := 3) (st' := [.ref 114]) rfl rfl ?_
  refine wq_gi (idx := 167) (pc' := 6) rfl rfl ho_M rfl rfl ?_
  refine wp_s (i := .iconst 1) (n := 1) (pc' := 7) (st' := [dz_I 1, dz_I (Z 114 2 0)]) rfl rfl ?_
  refine wq_2 (i := .isub) (z := (Z 114 2 0) - 1) (pc' := 8) rfl rfl (op_sub _ _) rfl ?_
  refine wq_st (k := 2) (i := .istore_n 2) (n := 1) (ls' := [some (.ref 114), some (dz_I 0), some (dz_I ((Z 114 2 0) - 1))]) (pc' := 9) rfl rfl rfl rfl rfl ?_
  refine dz_lpi (P := fun (s1 : Int × Int) => mm_Wp X D mm_r147 9 [some (.ref 114), some (dz_I s1.1), some (dz_I s1.2)] [] (hz_0 Z) Q) (fun s1 H => ?_) 5000 (0, (Z 114 2 0) - 1) H
  refine wp_s (i := .iload_n 2) (n := 1) (pc' := 10) (st' := [dz_I s1.2]) rfl rfl ?_
  refine wq_if (p := dz_c s1.2 < 0) (tt := 32) (pc' := 13) rfl rfl (cz_lt rfl) rfl (fun c2 => ?_) (fun c2 => ?_)
  · replace H := dz_it c2 H
    refine wp_s (i := .iload_n 1) (n := 1) (pc' := 33) (st' := [dz_I s1.1]) rfl rfl ?_
    refine wq_ri rfl rfl ?_
    replace H := dz_out H
    replace H := dz_sm H
    exact H
  · replace H := dz_if c2 H
    refine wp_s (i := .iconst 3) (n := 1) (pc' := 14) (st' := [dz_I 3]) rfl rfl ?_
    refine wp_s (i := .iload_n 1) (n := 1) (pc' := 15) (st' := [dz_I s1.1, dz_I 3]) rfl rfl ?_
    refine wq_2 (i := .imul) (z := 3 * s1.1) (pc' := 16) rfl rfl (op_mul _ _) rfl ?_
    refine wp_s (i := .aload_n 0) (n := 1) (pc' := 17) (st' := [.ref 114, dz_I (3 * s1.1)]) rfl rfl ?_
    refine wq_gr (idx := 7) (a := 115) (pc' := 20) rfl rfl ho_M rfl rfl ?_
    refine wp_s (i := .iconst 0) (n := 1) (pc' := 21) (st' := [dz_I 0, .ref 115, dz_I (3 * s1.1)]) rfl rfl ?_
    refine wp_s (i := .iload_n 2) (n := 1) (pc' := 22) (st' := [dz_I s1.2, dz_I 0, .ref 115, dz_I (3 * s1.1)]) rfl rfl ?_
    refine wq_2 (i := .iadd) (z := 0 + s1.2) (pc' := 23) rfl rfl (op_add _ _) rfl ?_
    obtain ⟨k3, H⟩ := dz_ck H
    refine wq_ia (j' := dz_c (0 + s1.2)) (pc' := 24) rfl ha_M_0 rfl k3.1 k3.2 rfl ?_
    refine wq_2 (i := .iadd) (z := (3 * s1.1) + (Z 114 0 (dz_c (0 + s1.2)))) (pc' := 25) rfl rfl (op_add _ _) rfl ?_
    refine wq_st (k := 1) (i := .istore_n 1) (n := 1) (ls' := [some (.ref 114), some (dz_I ((3 * s1.1) + (Z 114 0 (dz_c (0 + s1.2))))), some (dz_I s1.2)]) (pc' := 26) rfl rfl rfl rfl rfl ?_
    refine wq_inc (k := 2) (d := (-1)) (x := s1.2) (ls' := [some (.ref 114), some (dz_I ((3 * s1.1) + (Z 114 0 (dz_c (0 + s1.2))))), some (dz_I (s1.2 + (-1)))]) (pc' := 29) rfl rfl rfl rfl ?_
    refine wp_s (i := .goto (-20)) (n := 3) (pc' := 9) (st' := []) rfl rfl ?_
    replace H := dz_back H
    exact H
-- 148
def jf_M_sets (a1 : Int) (Z : dz_Z) : Option (dz_Z) := dz_lp (fun (s1 : Int × Int × dz_Z) => if dz_c (s1.2.2 114 2 0) ≤ dz_c s1.2.1 then (some (Sum.inr s1.2.2)) else (if 0 ≤ dz_c (0 + s1.2.1) ∧ dz_c (0 + s1.2.1) < 700 then dz_a (dz_u s1.2.2 114 0 (dz_c (0 + s1.2.1)) (Int.tmod (dz_c s1.1) 3)) fun Z4 => some (Sum.inl (Int.tdiv (dz_c s1.1) 3, s1.2.1 + 1, Z4)) else none)) 5000 (a1, 0, Z)
set_option maxRecDepth 20000 in
theorem jw_M_sets {X : Option (List Int32)} {D : Nat} {Q : Option Value → mm_H → Prop} (a1 : Int) (Z : dz_Z) (H : dz_p (jf_M_sets a1 Z) (fun q => Q (none) (hz_0 q))) : mm_Wp X D mm_r148 0 [some (.ref 114), some (dz_I a1), none, none] [] (hz_0 Z) Q := by
  unfold jf_M_sets at H
  refine wp_s (i := .iload_n 1) (n := 1) (pc' := 1) (st' := [dz_I a1]) rfl rfl ?_
  refine wq_st (k := 2) (i := .istore_n 2) (n := 1) (ls' := [some (.ref 114), some (dz_I a1), some (dz_I a1), none]) (pc' := 2) rfl rfl rfl rfl rfl ?_
  refine wp_s (i := .iconst 0) (n := 1) (pc' := 3) (st' := [dz_I 0]) rfl rfl ?_
  refine wq_st (k := 3) (i := .istore_n 3) (n := 1) (ls' := [some (.ref 114), some (dz_I a1), some (dz_I a1), some (dz_I 0)]) (pc' := 4) rfl rfl rfl rfl rfl ?_
  refine dz_lpi (P := fun (s1 : Int × Int × dz_Z) => mm_Wp X D mm_r148 4 [some (.ref 114), some (dz_I a1), some (dz_I s1.1), some (dz_I s1.2.1)] [] (hz_0 s1.2.2) Q) (fun s1 H => ?_) 5000 (a1, 0, Z) H
  refine wp_s (i := .iload_n 3) (n := 1) (pc' := 5) (st' := [dz_I s1.2.1]) rfl rfl ?_
  refine wp_s (i := .aload_n 0) (n := 1) (pc' := 6) (st' := [.ref 114, dz_I s1.2.1]) rfl rfl ?_
  refine wq_gi (idx := 167) (pc' := 9) rfl rfl ho_M rfl rfl ?_
  refine wq_ic (p := dz_c (s1.2.2 114 2 0) ≤ dz_c s1.2.1) (tt := 33) (pc' := 12) rfl rfl (cq_ge rfl rfl) rfl (fun c2 => ?_) (fun c2 => ?_)
  · replace H := dz_it c2 H
    refine wq_rv rfl rfl ?_
    replace H := dz_out H
    replace H := dz_sm H
    exact H
  · replace H := dz_if c2 H
    refine wp_s (i := .aload_n 0) (n := 1) (pc' := 13) (st' := [.ref 114]) rfl rfl ?_
    refine wq_gr (idx := 7) (a := 115) (pc' := 16) rfl rfl ho_M rfl rfl ?_
    refine wp_s (i := .iconst 0) (n := 1) (pc' := 17) (st' := [dz_I 0, .ref 115]) rfl rfl ?_
    refine wp_s (i := .iload_n 3) (n := 1) (pc' := 18) (st' := [dz_I s1.2.1, dz_I 0, .ref 115]) rfl rfl ?_
    refine wq_2 (i := .iadd) (z := 0 + s1.2.1) (pc' := 19) rfl rfl (op_add _ _) rfl ?_
    refine wp_s (i := .iload_n 2) (n := 1) (pc' := 20) (st' := [dz_I s1.1, dz_I (0 + s1.2.1), .ref 115]) rfl rfl ?_
    refine wp_s (i := .iconst 3) (n := 1) (pc' := 21) (st' := [dz_I 3, dz_I s1.1, dz_I (0 + s1.2.1), .ref 115]) rfl rfl ?_
    refine wq_2 (i := .irem) (z := Int.tmod (dz_c s1.1) 3) (pc' := 22) rfl rfl (op_rem rfl dk_3 (by decide)) rfl ?_
    obtain ⟨k3, H⟩ := dz_ck H
    refine wq_is (j' := dz_c (0 + s1.2.1)) (x := Int.tmod (dz_c s1.1) 3) (pc' := 23) rfl ha_M_0 rfl k3.1 k3.2 rfl (fun Z4 eZ4 => ?_)
    replace H := dz_le H Z4 eZ4
    clear eZ4
    refine wp_s (i := .iload_n 2) (n := 1) (pc' := 24) (st' := [dz_I s1.1]) rfl rfl ?_
    refine wp_s (i := .iconst 3) (n := 1) (pc' := 25) (st' := [dz_I 3, dz_I s1.1]) rfl rfl ?_
    refine wq_2 (i := .idiv) (z := Int.tdiv (dz_c s1.1) 3) (pc' := 26) rfl rfl (op_div rfl dk_3 (by decide)) rfl ?_
    refine wq_st (k := 2) (i := .istore_n 2) (n := 1) (ls' := [some (.ref 114), some (dz_I a1), some (dz_I (Int.tdiv (dz_c s1.1) 3)), some (dz_I s1.2.1)]) (pc' := 27) rfl rfl rfl rfl rfl ?_
    refine wq_inc (k := 3) (d := 1) (x := s1.2.1) (ls' := [some (.ref 114), some (dz_I a1), some (dz_I (Int.tdiv (dz_c s1.1) 3)), some (dz_I (s1.2.1 + 1))]) (pc' := 30) rfl rfl rfl rfl ?_
    refine wp_s (i := .goto (-26)) (n := 3) (pc' := 4) (st' := []) rfl rfl ?_
    replace H := dz_back H
    exact H
-- 149
def jf_M_settings (a1 : Int) (Z : dz_Z) : Option (Int × dz_Z) := Option.bind (jf_M_settingMany Z) fun q1 => if 0 ≤ dz_c a1 ∧ dz_c a1 ≤ dz_c (q1 - 1) then (Option.bind (jf_M_settingsNow Z) fun q3 => Option.bind (jf_M_sets a1 Z) fun q4 => some (q3, q4)) else (some ((-1), Z))
set_option maxRecDepth 20000 in
theorem jw_M_settings {X : Option (List Int32)} {D : Nat} {Q : Option Value → mm_H → Prop} (a1 : Int) (Z : dz_Z) (H : dz_p (jf_M_settings a1 Z) (fun q => Q (some (dz_I q.1)) (hz_0 q.2))) : mm_Wp X (D + 1) mm_r149 0 [some (.ref 114), some (dz_I a1), none] [] (hz_0 Z) Q := by
  unfold jf_M_settings at H
  refine wp_s (i := .iload_n 1) (n := 1) (pc' := 1) (st' := [dz_I a1]) rfl rfl ?_
  refine wq_3 (i := .i2l) (v' := dz_J (dz_c a1)) (pc' := 2) rfl rfl (oq_i2l' rfl) rfl ?_
  refine wp_s (i := .lconst 0) (n := 1) (pc' := 3) (st' := [dz_J 0, dz_J (dz_c a1)]) rfl rfl ?_
  refine wp_s (i := .aload_n 0) (n := 1) (pc' := 4) (st' := [.ref 114, dz_J 0, dz_J (dz_c a1)]) rfl rfl ?_
  refine wq_cv (Dq := D) (r' := mm_r146) (as0 := []) (rest := [dz_J 0, dz_J (dz_c a1)]) (ls' := [some (.ref 114), none, none]) (pc' := 7) rfl rfl rfl rfl ho_M rfl rfl rfl ?_
  refine jw_M_settingMany (X := X) (D := D + 0) Z (dz_pm (dz_bi H) (fun q1 H => ?_))
  show mm_Wp X (D + 1) mm_r149 7 [some (.ref 114), some (dz_I a1), none] [dz_I q1, dz_J 0, dz_J (dz_c a1)] (hz_0 Z) Q
  refine wp_s (i := .iconst 1) (n := 1) (pc' := 8) (st' := [dz_I 1, dz_I q1, dz_J 0, dz_J (dz_c a1)]) rfl rfl ?_
  refine wq_2 (i := .isub) (z := q1 - 1) (pc' := 9) rfl rfl (op_sub _ _) rfl ?_
  refine wq_3 (i := .i2l) (v' := dz_J (dz_c (q1 - 1))) (pc' := 10) rfl rfl (oq_i2l' rfl) rfl ?_
  refine wq_cs (Dq := D) (r' := mm_r120) (as0 := [dz_J (dz_c a1), dz_J 0, dz_J (dz_c (q1 - 1))]) (rest := []) (ls' := [some (dz_J (dz_c a1)), none, some (dz_J 0), none, some (dz_J (dz_c (q1 - 1))), none]) (pc' := 13) rfl rfl (by decide) rfl rfl rfl rfl rfl ?_
  refine jw_in (a' := dz_c a1) (b' := 0) (c' := dz_c (q1 - 1)) (dz_lc _) (by decide) (dz_lc _) ?_
  show mm_Wp X (D + 1) mm_r149 13 [some (.ref 114), some (dz_I a1), none] [dz_B (decide (0 ≤ dz_c a1 ∧ dz_c a1 ≤ dz_c (q1 - 1)))] (hz_0 Z) Q
  refine wq_if (p := 0 ≤ dz_c a1 ∧ dz_c a1 ≤ dz_c (q1 - 1)) (tt := 18) (pc' := 16) rfl rfl (cd_ne) rfl (fun c2 => ?_) (fun c2 => ?_)
  · replace H := dz_it c2 H
    refine wp_s (i := .aload_n 0) (n := 1) (pc' := 19) (st' := [.ref 114]) rfl rfl ?_
    refine wq_cv (Dq := D) (r' := mm_r147) (as0 := []) (rest := []) (ls' := [some (.ref 114), none, none]) (pc' := 22) rfl rfl rfl rfl ho_M rfl rfl rfl ?_
    refine jw_M_settingsNow (X := X) (D := D + 0) Z (dz_pm (dz_bi H) (fun q3 H => ?_))
    show mm_Wp X (D + 1) mm_r149 22 [some (.ref 114), some (dz_I a1), none] [dz_I q3] (hz_0 Z) Q
    refine wq_st (k := 2) (i := .istore_n 2) (n := 1) (ls' := [some (.ref 114), some (dz_I a1), some (dz_I q3)]) (pc' := 23) rfl rfl rfl rfl rfl ?_
    refine wp_s (i := .aload_n 0) (n := 1) (pc' := 24) (st' := [.ref 114]) rfl rfl ?_
    refine wp_s (i := .iload_n 1) (n := 1) (pc' := 25) (st' := [dz_I a1, .ref 114]) rfl rfl ?_
    refine wq_cv (Dq := D) (r' := mm_r148) (as0 := [dz_I a1]) (rest := []) (ls' := [some (.ref 114), some (dz_I a1), none, none]) (pc' := 28) rfl rfl rfl rfl ho_M rfl rfl rfl ?_
    refine jw_M_sets (X := X) (D := D + 0) a1 Z (dz_pm (dz_bi H) (fun q4 H => ?_))
    show mm_Wp X (D + 1) mm_r149 28 [some (.ref 114), some (dz_I a1), some (dz_I q3)] [] (hz_0 q4) Q
    refine wp_s (i := .iload_n 2) (n := 1) (pc' := 29) (st' := [dz_I q3]) rfl rfl ?_
    refine wq_ri rfl rfl ?_
    replace H := dz_sm H
    exact H
  · replace H := dz_if c2 H
    refine wp_s (i := .iconst (-1)) (n := 1) (pc' := 17) (st' := [dz_I (-1)]) rfl rfl ?_
    refine wq_ri rfl rfl ?_
    replace H := dz_sm H
    exact H
-- 150
def jf_M_leads (a1 : Int) (a2 : Int) (a3 : Int) (Z : dz_Z) : Option (dz_Z) := if dz_c a2 ≠ 20 then (if dz_c a2 < 10 then (if 0 ≤ dz_c a2 ∧ dz_c a2 < 5 then dz_a (dz_u Z 114 32 (dz_c a2) ((Z 114 32 (dz_c a2)) + a3)) fun Z4 => some Z4 else none) else (if 0 ≤ dz_c (a2 - 10) ∧ dz_c (a2 - 10) < 8 then dz_a (dz_u Z 114 33 (dz_c (a2 - 10)) ((Z 114 33 (dz_c (a2 - 10))) + a3)) fun Z6 => some Z6 else none)) else (if 0 ≤ dz_c (a1 + 136) ∧ dz_c (a1 + 136) < 700 then dz_a (dz_u Z 114 0 (dz_c (a1 + 136)) ((Z 114 0 (dz_c (a1 + 136))) + a3)) fun Z8 => some Z8 else none)
set_option maxRecDepth 20000 in
theorem jw_M_leads {X : Option (List Int32)} {D : Nat} {Q : Option Value → mm_H → Prop} (a1 : Int) (a2 : Int) (a3 : Int) (Z : dz_Z) (H : dz_p (jf_M_leads a1 a2 a3 Z) (fun q => Q (none) (hz_0 q))) : mm_Wp X D mm_r150 0 [some (.ref 114), some (dz_I a1), some (dz_I a2), some (dz_I a3)] [] (hz_0 Z) Q := by
  unfold jf_M_leads at H
  refine wp_s (i := .iload_n 2) (n := 1) (pc' := 1) (st' := [dz_I a2]) rfl rfl ?_
  refine wp_s (i := .bipush 20) (n := 2) (pc' := 3) (st' := [dz_I 20, dz_I a2]) rfl rfl ?_
  refine wq_ic (p := dz_c a2 ≠ 20) (tt := 23) (pc' := 6) rfl rfl (cq_ne rfl dk_20) rfl (fun c1 => ?_) (fun c1 => ?_)
  · replace H := dz_it c1 H
    refine wp_s (i := .iload_n 2) (n := 1) (pc' := 24) (st' := [dz_I a2]) rfl rfl ?_
    refine wp_s (i := .bipush 10) (n := 2) (pc' := 26) (st' := [dz_I 10, dz_I a2]) rfl rfl ?_
    refine wq_ic (p := dz_c a2 < 10) (tt := 45) (pc' := 29) rfl rfl (cq_lt rfl dk_10) rfl (fun c2 => ?_) (fun c2 => ?_)
    · replace H := dz_it c2 H
      refine wp_s (i := .aload_n 0) (n := 1) (pc' := 46) (st' := [.ref 114]) rfl rfl ?_
      refine wq_gr (idx := 52) (a := 129) (pc' := 49) rfl rfl ho_M rfl rfl ?_
      refine wp_s (i := .iload_n 2) (n := 1) (pc' := 50) (st' := [dz_I a2, .ref 129]) rfl rfl ?_
      refine wp_s (i := .dup2) (n := 1) (pc' := 51) (st' := [dz_I a2, .ref 129, dz_I a2, .ref 129]) rfl rfl ?_
      obtain ⟨k3, H⟩ := dz_ck H
      refine wq_ia (j' := dz_c a2) (pc' := 52) rfl ha_M_32 rfl k3.1 k3.2 rfl ?_
      refine wp_s (i := .iload_n 3) (n := 1) (pc' := 53) (st' := [dz_I a3, dz_I (Z 114 32 (dz_c a2)), dz_I a2, .ref 129]) rfl rfl ?_
      refine wq_2 (i := .iadd) (z := (Z 114 32 (dz_c a2)) + a3) (pc' := 54) rfl rfl (op_add _ _) rfl ?_
      refine wq_is (j' := dz_c a2) (x := (Z 114 32 (dz_c a2)) + a3) (pc' := 55) rfl ha_M_32 rfl k3.1 k3.2 rfl (fun Z4 eZ4 => ?_)
      replace H := dz_le H Z4 eZ4
      clear eZ4
      refine wq_rv rfl rfl ?_
      replace H := dz_sm H
      exact H
    · replace H := dz_if c2 H
      refine wp_s (i := .aload_n 0) (n := 1) (pc' := 30) (st' := [.ref 114]) rfl rfl ?_
      refine wq_gr (idx := 55) (a := 130) (pc' := 33) rfl rfl ho_M rfl rfl ?_
      refine wp_s (i := .iload_n 2) (n := 1) (pc' := 34) (st' := [dz_I a2, .ref 130]) rfl rfl ?_
      refine wp_s (i := .bipush 10) (n := 2) (pc' := 36) (st' := [dz_I 10, dz_I a2, .ref 130]) rfl rfl ?_
      refine wq_2 (i := .isub) (z := a2 - 10) (pc' := 37) rfl rfl (op_sub _ _) rfl ?_
      refine wp_s (i := .dup2) (n := 1) (pc' := 38) (st' := [dz_I (a2 - 10), .ref 130, dz_I (a2 - 10), .ref 130]) rfl rfl ?_
      obtain ⟨k5, H⟩ := dz_ck H
      refine wq_ia (j' := dz_c (a2 - 10)) (pc' := 39) rfl ha_M_33 rfl k5.1 k5.2 rfl ?_
      refine wp_s (i := .iload_n 3) (n := 1) (pc' := 40) (st' := [dz_I a3, dz_I (Z 114 33 (dz_c (a2 - 10))), dz_I (a2 - 10), .ref 130]) rfl rfl ?_
      refine wq_2 (i := .iadd) (z := (Z 114 33 (dz_c (a2 - 10))) + a3) (pc' := 41) rfl rfl (op_add _ _) rfl ?_
      refine wq_is (j' := dz_c (a2 - 10)) (x := (Z 114 33 (dz_c (a2 - 10))) + a3) (pc' := 42) rfl ha_M_33 rfl k5.1 k5.2 rfl (fun Z6 eZ6 => ?_)
      replace H := dz_le H Z6 eZ6
      clear eZ6
      refine wp_s (i := .goto 13) (n := 3) (pc' := 55) (st' := []) rfl rfl ?_
      refine wq_rv rfl rfl ?_
      replace H := dz_sm H
      exact H
  · replace H := dz_if c1 H
    refine wp_s (i := .aload_n 0) (n := 1) (pc' := 7) (st' := [.ref 114]) rfl rfl ?_
    refine wq_gr (idx := 7) (a := 115) (pc' := 10) rfl rfl ho_M rfl rfl ?_
    refine wp_s (i := .iload_n 1) (n := 1) (pc' := 11) (st' := [dz_I a1, .ref 115]) rfl rfl ?_
    refine wp_s (i := .sipush 136) (n := 3) (pc' := 14) (st' := [dz_I 136, dz_I a1, .ref 115]) rfl rfl ?_
    refine wq_2 (i := .iadd) (z := a1 + 136) (pc' := 15) rfl rfl (op_add _ _) rfl ?_
    refine wp_s (i := .dup2) (n := 1) (pc' := 16) (st' := [dz_I (a1 + 136), .ref 115, dz_I (a1 + 136), .ref 115]) rfl rfl ?_
    obtain ⟨k7, H⟩ := dz_ck H
    refine wq_ia (j' := dz_c (a1 + 136)) (pc' := 17) rfl ha_M_0 rfl k7.1 k7.2 rfl ?_
    refine wp_s (i := .iload_n 3) (n := 1) (pc' := 18) (st' := [dz_I a3, dz_I (Z 114 0 (dz_c (a1 + 136))), dz_I (a1 + 136), .ref 115]) rfl rfl ?_
    refine wq_2 (i := .iadd) (z := (Z 114 0 (dz_c (a1 + 136))) + a3) (pc' := 19) rfl rfl (op_add _ _) rfl ?_
    refine wq_is (j' := dz_c (a1 + 136)) (x := (Z 114 0 (dz_c (a1 + 136))) + a3) (pc' := 20) rfl ha_M_0 rfl k7.1 k7.2 rfl (fun Z8 eZ8 => ?_)
    replace H := dz_le H Z8 eZ8
    clear eZ8
    refine wp_s (i := .goto 35) (n := 3) (pc' := 55) (st' := []) rfl rfl ?_
    refine wq_rv rfl rfl ?_
    replace H := dz_sm H
    exact H
-- 151
def jf_M_gutters (a1 : Int) (a2 : Int) (Z : dz_Z) : Option (dz_Z) := dz_lp (fun (s1 : Int × dz_Z) => if 8 ≤ dz_c s1.1 then (dz_lp (fun (s3 : Int × dz_Z) => if dz_c (s3.2 114 1 0) ≤ dz_c s3.1 then (dz_lp (fun (s5 : Int × dz_Z) => if dz_c (s5.2 114 2 0) ≤ dz_c s5.1 then (some (Sum.inr (Sum.inr (Sum.inr s5.2)))) else (if 0 ≤ dz_c s5.1 ∧ dz_c s5.1 < 5 then if 0 ≤ dz_c (0 + s5.1) ∧ dz_c (0 + s5.1) < 700 then Option.bind (α := Int) (if dz_c (s5.2 114 0 (dz_c (0 + s5.1))) ≠ 0 then (if dz_c (s5.2 114 0 (dz_c (0 + s5.1))) ≠ 1 then (if 0 ≤ dz_c (a1 + 134) ∧ dz_c (a1 + 134) < 700 then if dz_c (Int.tmod (dz_c (s5.2 114 0 (dz_c (a1 + 134)))) 2) ≠ 0 then (some (Int.tdiv (dz_c ((s5.2 114 32 (dz_c s5.1)) + 0)) 2)) else (some (Int.tdiv (dz_c ((s5.2 114 32 (dz_c s5.1)) + 1)) 2)) else none) else (some 0)) else (some (s5.2 114 32 (dz_c s5.1)))) (fun (q16 : Int) => if 0 ≤ dz_c (5 + s5.1) ∧ dz_c (5 + s5.1) < 700 then if dz_c (s5.2 114 0 (dz_c (5 + s5.1))) ≠ 1 then (if 0 ≤ dz_c (2 * s5.1) ∧ dz_c (2 * s5.1) < 10 then Option.bind (jf_M_leads a1 (s5.2 114 8 (dz_c (2 * s5.1))) q16 s5.2) fun q20 => if 0 ≤ dz_c ((2 * s5.1) + 1) ∧ dz_c ((2 * s5.1) + 1) < 10 then Option.bind (jf_M_leads a1 (q20 114 8 (dz_c ((2 * s5.1) + 1))) ((s5.2 114 32 (dz_c s5.1)) - q16) q20) fun q22 => some (Sum.inl (s5.1 + 1, q22)) else none else none) else (if 0 ≤ dz_c (a1 + 136) ∧ dz_c (a1 + 136) < 700 then dz_a (dz_u s5.2 114 0 (dz_c (a1 + 136)) ((s5.2 114 0 (dz_c (a1 + 136))) + (s5.2 114 32 (dz_c s5.1)))) fun Z24 => some (Sum.inl (s5.1 + 1, Z24)) else none) else none) else none else none)) 5000 (0, s3.2)) else (if 0 ≤ dz_c ((2 * s3.1) + 1) ∧ dz_c ((2 * s3.1) + 1) < 8 then if 0 ≤ dz_c (s3.2 114 7 (dz_c ((2 * s3.1) + 1))) ∧ dz_c (s3.2 114 7 (dz_c ((2 * s3.1) + 1))) < 5 then if 0 ≤ dz_c (2 * s3.1) ∧ dz_c (2 * s3.1) < 8 then dz_a (dz_u s3.2 114 32 (dz_c (s3.2 114 7 (dz_c ((2 * s3.1) + 1)))) ((s3.2 114 32 (dz_c (s3.2 114 7 (dz_c ((2 * s3.1) + 1))))) + ((s3.2 114 7 (dz_c (2 * s3.1))) * a2))) fun Z32 => if 0 ≤ dz_c (a1 + 135) ∧ dz_c (a1 + 135) < 700 then dz_a (dz_u Z32 114 0 (dz_c (a1 + 135)) ((Z32 114 0 (dz_c (a1 + 135))) + ((Z32 114 7 (dz_c (2 * s3.1))) * a2))) fun Z34 => some (Sum.inl (s3.1 + 1, Z34)) else none else none else none else none)) 5000 (0, s1.2)) else (if 0 ≤ dz_c (Int.tmod (dz_c s1.1) 5) ∧ dz_c (Int.tmod (dz_c s1.1) 5) < 5 then dz_a (dz_u s1.2 114 32 (dz_c (Int.tmod (dz_c s1.1) 5)) 0) fun Z36 => if 0 ≤ dz_c s1.1 ∧ dz_c s1.1 < 8 then dz_a (dz_u Z36 114 33 (dz_c s1.1) 0) fun Z38 => some (Sum.inl (s1.1 + 1, Z38)) else none else none)) 5000 (0, Z)
set_option maxRecDepth 20000 in
theorem jw_M_gutters {X : Option (List Int32)} {D : Nat} {Q : Option Value → mm_H → Prop} (a1 : Int) (a2 : Int) (Z : dz_Z) (H : dz_p (jf_M_gutters a1 a2 Z) (fun q => Q (none) (hz_0 q))) : mm_Wp X (D + 1) mm_r151 0 [some (.ref 114), some (dz_I a1), some (dz_I a2), none, none, none, none] [] (hz_0 Z) Q := by
  unfold jf_M_gutters at H
  refine wp_s (i := .iconst 0) (n := 1) (pc' := 1) (st' := [dz_I 0]) rfl rfl ?_
  refine wq_st (k := 3) (i := .istore_n 3) (n := 1) (ls' := [some (.ref 114), some (dz_I a1), some (dz_I a2), some (dz_I 0), none, none, none]) (pc' := 2) rfl rfl rfl rfl rfl ?_
  refine dz_lpi (P := fun (s1 : Int × dz_Z) => mm_Wp X (D + 1) mm_r151 2 [some (.ref 114), some (dz_I a1), some (dz_I a2), some (dz_I s1.1), none, none, none] [] (hz_0 s1.2) Q) (fun s1 H => ?_) 5000 (0, Z) H
  refine wp_s (i := .iload_n 3) (n := 1) (pc' := 3) (st' := [dz_I s1.1]) rfl rfl ?_
  refine wp_s (i := .bipush 8) (n := 2) (pc' := 5) (st' := [dz_I 8, dz_I s1.1]) rfl rfl ?_
  refine wq_ic (p := 8 ≤ dz_c s1.1) (tt := 30) (pc' := 8) rfl rfl (cq_ge rfl dk_8) rfl (fun c2 => ?_) (fun c2 => ?_)
  · replace H := dz_it c2 H
    refine wp_s (i := .iconst 0) (n := 1) (pc' := 31) (st' := [dz_I 0]) rfl rfl ?_
    refine wq_st (k := 3) (i := .istore_n 3) (n := 1) (ls' := [some (.ref 114), some (dz_I a1), some (dz_I a2), some (dz_I 0), none, none, none]) (pc' := 32) rfl rfl rfl rfl rfl ?_
    refine dz_lpi (P := fun (s3 : Int × dz_Z) => mm_Wp X (D + 1) mm_r151 32 [some (.ref 114), some (dz_I a1), some (dz_I a2), some (dz_I s3.1), none, none, none] [] (hz_0 s3.2) Q) (fun s3 H => ?_) 5000 (0, s1.2) H
    refine wp_s (i := .iload_n 3) (n := 1) (pc' := 33) (st' := [dz_I s3.1]) rfl rfl ?_
    refine wp_s (i := .aload_n 0) (n := 1) (pc' := 34) (st' := [.ref 114, dz_I s3.1]) rfl rfl ?_
    refine wq_gi (idx := 164) (pc' := 37) rfl rfl ho_M rfl rfl ?_
    refine wq_ic (p := dz_c (s3.2 114 1 0) ≤ dz_c s3.1) (tt := 97) (pc' := 40) rfl rfl (cq_ge rfl rfl) rfl (fun c4 => ?_) (fun c4 => ?_)
    · replace H := dz_it c4 H
      refine wp_s (i := .iconst 0) (n := 1) (pc' := 98) (st' := [dz_I 0]) rfl rfl ?_
      refine wq_st (k := 3) (i := .istore_n 3) (n := 1) (ls' := [some (.ref 114), some (dz_I a1), some (dz_I a2), some (dz_I 0), none, none, none]) (pc' := 99) rfl rfl rfl rfl rfl ?_
      refine dz_lpi (P := fun (s5 : Int × dz_Z) => ∀ (u6 u7 u8 : Option Int32), mm_Wp X (D + 1) mm_r151 99 [some (.ref 114), some (dz_I a1), some (dz_I a2), some (dz_I s5.1), Option.map Value.int u6, Option.map Value.int u7, Option.map Value.int u8] [] (hz_0 s5.2) Q) (fun s5 H => ?_) 5000 (0, s3.2) H none none none
      intro u6 u7 u8
      refine wp_s (i := .iload_n 3) (n := 1) (pc' := 100) (st' := [dz_I s5.1]) rfl rfl ?_
      refine wp_s (i := .aload_n 0) (n := 1) (pc' := 101) (st' := [.ref 114, dz_I s5.1]) rfl rfl ?_
      refine wq_gi (idx := 167) (pc' := 104) rfl rfl ho_M rfl rfl ?_
      refine wq_ic (p := dz_c (s5.2 114 2 0) ≤ dz_c s5.1) (tt := 243) (pc' := 107) rfl rfl (cq_ge rfl rfl) rfl (fun c9 => ?_) (fun c9 => ?_)
      · replace H := dz_it c9 H
        refine wq_rv rfl rfl ?_
        replace H := dz_out H
        replace H := dz_out H
        replace H := dz_out H
        replace H := dz_sm H
        exact H
      · replace H := dz_if c9 H
        refine wp_s (i := .aload_n 0) (n := 1) (pc' := 108) (st' := [.ref 114]) rfl rfl ?_
        refine wq_gr (idx := 52) (a := 129) (pc' := 111) rfl rfl ho_M rfl rfl ?_
        refine wp_s (i := .iload_n 3) (n := 1) (pc' := 112) (st' := [dz_I s5.1, .ref 129]) rfl rfl ?_
        obtain ⟨k10, H⟩ := dz_ck H
        refine wq_ia (j' := dz_c s5.1) (pc' := 113) rfl ha_M_32 rfl k10.1 k10.2 rfl ?_
        refine wq_st (k := 4) (i := .istore 4) (n := 2) (ls' := [some (.ref 114), some (dz_I a1), some (dz_I a2), some (dz_I s5.1), some (dz_I (s5.2 114 32 (dz_c s5.1))), Option.map Value.int u7, Option.map Value.int u8]) (pc' := 115) rfl rfl rfl rfl rfl ?_
        refine wp_s (i := .aload_n 0) (n := 1) (pc' := 116) (st' := [.ref 114]) rfl rfl ?_
        refine wq_gr (idx := 7) (a := 115) (pc' := 119) rfl rfl ho_M rfl rfl ?_
        refine wp_s (i := .iconst 0) (n := 1) (pc' := 120) (st' := [dz_I 0, .ref 115]) rfl rfl ?_
        refine wp_s (i := .iload_n 3) (n := 1) (pc' := 121) (st' := [dz_I s5.1, dz_I 0, .ref 115]) rfl rfl ?_
        refine wq_2 (i := .iadd) (z := 0 + s5.1) (pc' := 122) rfl rfl (op_add _ _) rfl ?_
        obtain ⟨k11, H⟩ := dz_ck H
        refine wq_ia (j' := dz_c (0 + s5.1)) (pc' := 123) rfl ha_M_0 rfl k11.1 k11.2 rfl ?_
        refine wq_st (k := 5) (i := .istore 5) (n := 2) (ls' := [some (.ref 114), some (dz_I a1), some (dz_I a2), some (dz_I s5.1), some (dz_I (s5.2 114 32 (dz_c s5.1))), some (dz_I (s5.2 114 0 (dz_c (0 + s5.1)))), Option.map Value.int u8]) (pc' := 125) rfl rfl rfl rfl rfl ?_
        refine wp_s (i := .iload 5) (n := 2) (pc' := 127) (st' := [dz_I (s5.2 114 0 (dz_c (0 + s5.1)))]) rfl rfl ?_
        refine dz_jn (P := fun (q16 : Int) => mm_Wp X (D + 1) mm_r151 170 [some (.ref 114), some (dz_I a1), some (dz_I a2), some (dz_I s5.1), some (dz_I (s5.2 114 32 (dz_c s5.1))), some (dz_I (s5.2 114 0 (dz_c (0 + s5.1)))), Option.map Value.int u8] [dz_I q16] (hz_0 s5.2) Q) (dz_bi H) (fun q16 H => ?_) (fun H => ?_)
        · skip
          refine wq_st (k := 6) (i := .istore 6) (n := 2) (ls' := [some (.ref 114), some (dz_I a1), some (dz_I a2), some (dz_I s5.1), some (dz_I (s5.2 114 32 (dz_c s5.1))), some (dz_I (s5.2 114 0 (dz_c (0 + s5.1)))), some (dz_I q16)]) (pc' := 172) rfl rfl rfl rfl rfl ?_
          refine wp_s (i := .aload_n 0) (n := 1) (pc' := 173) (st' := [.ref 114]) rfl rfl ?_
          refine wq_gr (idx := 7) (a := 115) (pc' := 176) rfl rfl ho_M rfl rfl ?_
          refine wp_s (i := .iconst 5) (n := 1) (pc' := 177) (st' := [dz_I 5, .ref 115]) rfl rfl ?_
          refine wp_s (i := .iload_n 3) (n := 1) (pc' := 178) (st' := [dz_I s5.1, dz_I 5, .ref 115]) rfl rfl ?_
          refine wq_2 (i := .iadd) (z := 5 + s5.1) (pc' := 179) rfl rfl (op_add _ _) rfl ?_
          obtain ⟨k17, H⟩ := dz_ck H
          refine wq_ia (j' := dz_c (5 + s5.1)) (pc' := 180) rfl ha_M_0 rfl k17.1 k17.2 rfl ?_
          refine wp_s (i := .iconst 1) (n := 1) (pc' := 181) (st' := [dz_I 1, dz_I (s5.2 114 0 (dz_c (5 + s5.1)))]) rfl rfl ?_
          refine wq_ic (p := dz_c (s5.2 114 0 (dz_c (5 + s5.1))) ≠ 1) (tt := 202) (pc' := 184) rfl rfl (cq_ne rfl dk_1) rfl (fun c18 => ?_) (fun c18 => ?_)
          · replace H := dz_it c18 H
            refine wp_s (i := .aload_n 0) (n := 1) (pc' := 203) (st' := [.ref 114]) rfl rfl ?_
            refine wp_s (i := .iload_n 1) (n := 1) (pc' := 204) (st' := [dz_I a1, .ref 114]) rfl rfl ?_
            refine wp_s (i := .aload_n 0) (n := 1) (pc' := 205) (st' := [.ref 114, dz_I a1, .ref 114]) rfl rfl ?_
            refine wq_gr (idx := 16) (a := 117) (pc' := 208) rfl rfl ho_M rfl rfl ?_
            refine wp_s (i := .iconst 2) (n := 1) (pc' := 209) (st' := [dz_I 2, .ref 117, dz_I a1, .ref 114]) rfl rfl ?_
            refine wp_s (i := .iload_n 3) (n := 1) (pc' := 210) (st' := [dz_I s5.1, dz_I 2, .ref 117, dz_I a1, .ref 114]) rfl rfl ?_
            refine wq_2 (i := .imul) (z := 2 * s5.1) (pc' := 211) rfl rfl (op_mul _ _) rfl ?_
            obtain ⟨k19, H⟩ := dz_ck H
            refine wq_ia (j' := dz_c (2 * s5.1)) (pc' := 212) rfl ha_M_8 rfl k19.1 k19.2 rfl ?_
            refine wp_s (i := .iload 6) (n := 2) (pc' := 214) (st' := [dz_I q16, dz_I (s5.2 114 8 (dz_c (2 * s5.1))), dz_I a1, .ref 114]) rfl rfl ?_
            refine wq_cv (Dq := D) (r' := mm_r150) (as0 := [dz_I a1, dz_I (s5.2 114 8 (dz_c (2 * s5.1))), dz_I q16]) (rest := []) (ls' := [some (.ref 114), some (dz_I a1), some (dz_I (s5.2 114 8 (dz_c (2 * s5.1)))), some (dz_I q16)]) (pc' := 217) rfl rfl rfl rfl ho_M rfl rfl rfl ?_
            refine jw_M_leads (X := X) (D := D + 0) a1 (s5.2 114 8 (dz_c (2 * s5.1))) q16 s5.2 (dz_pm (dz_bi H) (fun q20 H => ?_))
            show mm_Wp X (D + 1) mm_r151 217 [some (.ref 114), some (dz_I a1), some (dz_I a2), some (dz_I s5.1), some (dz_I (s5.2 114 32 (dz_c s5.1))), some (dz_I (s5.2 114 0 (dz_c (0 + s5.1)))), some (dz_I q16)] [] (hz_0 q20) Q
            refine wp_s (i := .aload_n 0) (n := 1) (pc' := 218) (st' := [.ref 114]) rfl rfl ?_
            refine wp_s (i := .iload_n 1) (n := 1) (pc' := 219) (st' := [dz_I a1, .ref 114]) rfl rfl ?_
            refine wp_s (i := .aload_n 0) (n := 1) (pc' := 220) (st' := [.ref 114, dz_I a1, .ref 114]) rfl rfl ?_
            refine wq_gr (idx := 16) (a := 117) (pc' := 223) rfl rfl ho_M rfl rfl ?_
            refine wp_s (i := .iconst 2) (n := 1) (pc' := 224) (st' := [dz_I 2, .ref 117, dz_I a1, .ref 114]) rfl rfl ?_
            refine wp_s (i := .iload_n 3) (n := 1) (pc' := 225) (st' := [dz_I s5.1, dz_I 2, .ref 117, dz_I a1, .ref 114]) rfl rfl ?_
            refine wq_2 (i := .imul) (z := 2 * s5.1) (pc' := 226) rfl rfl (op_mul _ _) rfl ?_
            refine wp_s (i := .iconst 1) (n := 1) (pc' := 227) (st' := [dz_I 1, dz_I (2 * s5.1), .ref 117, dz_I a1, .ref 114]) rfl rfl ?_
            refine wq_2 (i := .iadd) (z := (2 * s5.1) + 1) (pc' := 228) rfl rfl (op_add _ _) rfl ?_
            obtain ⟨k21, H⟩ := dz_ck H
            refine wq_ia (j' := dz_c ((2 * s5.1) + 1)) (pc' := 229) rfl ha_M_8 rfl k21.1 k21.2 rfl ?_
            refine wp_s (i := .iload 4) (n := 2) (pc' := 231) (st' := [dz_I (s5.2 114 32 (dz_c s5.1)), dz_I (q20 114 8 (dz_c ((2 * s5.1) + 1))), dz_I a1, .ref 114]) rfl rfl ?_
            refine wp_s (i := .iload 6) (n := 2) (pc' := 233) (st' := [dz_I q16, dz_I (s5.2 114 32 (dz_c s5.1)), dz_I (q20 114 8 (dz_c ((2 * s5.1) + 1))), dz_I a1, .ref 114]) rfl rfl ?_
            refine wq_2 (i := .isub) (z := (s5.2 114 32 (dz_c s5.1)) - q16) (pc' := 234) rfl rfl (op_sub _ _) rfl ?_
            refine wq_cv (Dq := D) (r' := mm_r150) (as0 := [dz_I a1, dz_I (q20 114 8 (dz_c ((2 * s5.1) + 1))), dz_I ((s5.2 114 32 (dz_c s5.1)) - q16)]) (rest := []) (ls' := [some (.ref 114), some (dz_I a1), some (dz_I (q20 114 8 (dz_c ((2 * s5.1) + 1)))), some (dz_I ((s5.2 114 32 (dz_c s5.1)) - q16))]) (pc' := 237) rfl rfl rfl rfl ho_M rfl rfl rfl ?_
            refine jw_M_leads (X := X) (D := D + 0) a1 (q20 114 8 (dz_c ((2 * s5.1) + 1))) ((s5.2 114 32 (dz_c s5.1)) - q16) q20 (dz_pm (dz_bi H) (fun q22 H => ?_))
            show mm_Wp X (D + 1) mm_r151 237 [some (.ref 114), some (dz_I a1), some (dz_I a2), some (dz_I s5.1), some (dz_I (s5.2 114 32 (dz_c s5.1))), some (dz_I (s5.2 114 0 (dz_c (0 + s5.1)))), some (dz_I q16)] [] (hz_0 q22) Q
            refine wq_inc (k := 3) (d := 1) (x := s5.1) (ls' := [some (.ref 114), some (dz_I a1), some (dz_I a2), some (dz_I (s5.1 + 1)), some (dz_I (s5.2 114 32 (dz_c s5.1))), some (dz_I (s5.2 114 0 (dz_c (0 + s5.1)))), some (dz_I q16)]) (pc' := 240) rfl rfl rfl rfl ?_
            refine wp_s (i := .goto (-141)) (n := 3) (pc' := 99) (st' := []) rfl rfl ?_
            replace H := dz_back H
            exact H (some (Int32.ofInt (s5.2 114 32 (dz_c s5.1)))) (some (Int32.ofInt (s5.2 114 0 (dz_c (0 + s5.1))))) (some (Int32.ofInt q16))
          · replace H := dz_if c18 H
            refine wp_s (i := .aload_n 0) (n := 1) (pc' := 185) (st' := [.ref 114]) rfl rfl ?_
            refine wq_gr (idx := 7) (a := 115) (pc' := 188) rfl rfl ho_M rfl rfl ?_
            refine wp_s (i := .iload_n 1) (n := 1) (pc' := 189) (st' := [dz_I a1, .ref 115]) rfl rfl ?_
            refine wp_s (i := .sipush 136) (n := 3) (pc' := 192) (st' := [dz_I 136, dz_I a1, .ref 115]) rfl rfl ?_
            refine wq_2 (i := .iadd) (z := a1 + 136) (pc' := 193) rfl rfl (op_add _ _) rfl ?_
            refine wp_s (i := .dup2) (n := 1) (pc' := 194) (st' := [dz_I (a1 + 136), .ref 115, dz_I (a1 + 136), .ref 115]) rfl rfl ?_
            obtain ⟨k23, H⟩ := dz_ck H
            refine wq_ia (j' := dz_c (a1 + 136)) (pc' := 195) rfl ha_M_0 rfl k23.1 k23.2 rfl ?_
            refine wp_s (i := .iload 4) (n := 2) (pc' := 197) (st' := [dz_I (s5.2 114 32 (dz_c s5.1)), dz_I (s5.2 114 0 (dz_c (a1 + 136))), dz_I (a1 + 136), .ref 115]) rfl rfl ?_
            refine wq_2 (i := .iadd) (z := (s5.2 114 0 (dz_c (a1 + 136))) + (s5.2 114 32 (dz_c s5.1))) (pc' := 198) rfl rfl (op_add _ _) rfl ?_
            refine wq_is (j' := dz_c (a1 + 136)) (x := (s5.2 114 0 (dz_c (a1 + 136))) + (s5.2 114 32 (dz_c s5.1))) (pc' := 199) rfl ha_M_0 rfl k23.1 k23.2 rfl (fun Z24 eZ24 => ?_)
            replace H := dz_le H Z24 eZ24
            clear eZ24
            refine wp_s (i := .goto 38) (n := 3) (pc' := 237) (st' := []) rfl rfl ?_
            refine wq_inc (k := 3) (d := 1) (x := s5.1) (ls' := [some (.ref 114), some (dz_I a1), some (dz_I a2), some (dz_I (s5.1 + 1)), some (dz_I (s5.2 114 32 (dz_c s5.1))), some (dz_I (s5.2 114 0 (dz_c (0 + s5.1)))), some (dz_I q16)]) (pc' := 240) rfl rfl rfl rfl ?_
            refine wp_s (i := .goto (-141)) (n := 3) (pc' := 99) (st' := []) rfl rfl ?_
            replace H := dz_back H
            exact H (some (Int32.ofInt (s5.2 114 32 (dz_c s5.1)))) (some (Int32.ofInt (s5.2 114 0 (dz_c (0 + s5.1))))) (some (Int32.ofInt q16))
        · skip
          refine wq_if (p := dz_c (s5.2 114 0 (dz_c (0 + s5.1))) ≠ 0) (tt := 135) (pc' := 130) rfl rfl (cz_ne rfl) rfl (fun c25 => ?_) (fun c25 => ?_)
          · replace H := dz_it c25 H
            refine wp_s (i := .iload 5) (n := 2) (pc' := 137) (st' := [dz_I (s5.2 114 0 (dz_c (0 + s5.1)))]) rfl rfl ?_
            refine wp_s (i := .iconst 1) (n := 1) (pc' := 138) (st' := [dz_I 1, dz_I (s5.2 114 0 (dz_c (0 + s5.1)))]) rfl rfl ?_
            refine wq_ic (p := dz_c (s5.2 114 0 (dz_c (0 + s5.1))) ≠ 1) (tt := 145) (pc' := 141) rfl rfl (cq_ne rfl dk_1) rfl (fun c26 => ?_) (fun c26 => ?_)
            · replace H := dz_it c26 H
              refine wp_s (i := .iload 4) (n := 2) (pc' := 147) (st' := [dz_I (s5.2 114 32 (dz_c s5.1))]) rfl rfl ?_
              refine wp_s (i := .aload_n 0) (n := 1) (pc' := 148) (st' := [.ref 114, dz_I (s5.2 114 32 (dz_c s5.1))]) rfl rfl ?_
              refine wq_gr (idx := 7) (a := 115) (pc' := 151) rfl rfl ho_M rfl rfl ?_
              refine wp_s (i := .iload_n 1) (n := 1) (pc' := 152) (st' := [dz_I a1, .ref 115, dz_I (s5.2 114 32 (dz_c s5.1))]) rfl rfl ?_
              refine wp_s (i := .sipush 134) (n := 3) (pc' := 155) (st' := [dz_I 134, dz_I a1, .ref 115, dz_I (s5.2 114 32 (dz_c s5.1))]) rfl rfl ?_
              refine wq_2 (i := .iadd) (z := a1 + 134) (pc' := 156) rfl rfl (op_add _ _) rfl ?_
              obtain ⟨k27, H⟩ := dz_ck H
              refine wq_ia (j' := dz_c (a1 + 134)) (pc' := 157) rfl ha_M_0 rfl k27.1 k27.2 rfl ?_
              refine wp_s (i := .iconst 2) (n := 1) (pc' := 158) (st' := [dz_I 2, dz_I (s5.2 114 0 (dz_c (a1 + 134))), dz_I (s5.2 114 32 (dz_c s5.1))]) rfl rfl ?_
              refine wq_2 (i := .irem) (z := Int.tmod (dz_c (s5.2 114 0 (dz_c (a1 + 134)))) 2) (pc' := 159) rfl rfl (op_rem rfl dk_2 (by decide)) rfl ?_
              refine wq_if (p := dz_c (Int.tmod (dz_c (s5.2 114 0 (dz_c (a1 + 134)))) 2) ≠ 0) (tt := 166) (pc' := 162) rfl rfl (cz_ne rfl) rfl (fun c28 => ?_) (fun c28 => ?_)
              · replace H := dz_it c28 H
                refine wp_s (i := .iconst 0) (n := 1) (pc' := 167) (st' := [dz_I 0, dz_I (s5.2 114 32 (dz_c s5.1))]) rfl rfl ?_
                refine wq_2 (i := .iadd) (z := (s5.2 114 32 (dz_c s5.1)) + 0) (pc' := 168) rfl rfl (op_add _ _) rfl ?_
                refine wp_s (i := .iconst 2) (n := 1) (pc' := 169) (st' := [dz_I 2, dz_I ((s5.2 114 32 (dz_c s5.1)) + 0)]) rfl rfl ?_
                refine wq_2 (i := .idiv) (z := Int.tdiv (dz_c ((s5.2 114 32 (dz_c s5.1)) + 0)) 2) (pc' := 170) rfl rfl (op_div rfl dk_2 (by decide)) rfl ?_
                replace H := dz_sm H
                exact H
              · replace H := dz_if c28 H
                refine wp_s (i := .iconst 1) (n := 1) (pc' := 163) (st' := [dz_I 1, dz_I (s5.2 114 32 (dz_c s5.1))]) rfl rfl ?_
                refine wp_s (i := .goto 4) (n := 3) (pc' := 167) (st' := [dz_I 1, dz_I (s5.2 114 32 (dz_c s5.1))]) rfl rfl ?_
                refine wq_2 (i := .iadd) (z := (s5.2 114 32 (dz_c s5.1)) + 1) (pc' := 168) rfl rfl (op_add _ _) rfl ?_
                refine wp_s (i := .iconst 2) (n := 1) (pc' := 169) (st' := [dz_I 2, dz_I ((s5.2 114 32 (dz_c s5.1)) + 1)]) rfl rfl ?_
                refine wq_2 (i := .idiv) (z := Int.tdiv (dz_c ((s5.2 114 32 (dz_c s5.1)) + 1)) 2) (pc' := 170) rfl rfl (op_div rfl dk_2 (by decide)) rfl ?_
                replace H := dz_sm H
                exact H
            · replace H := dz_if c26 H
              refine wp_s (i := .iconst 0) (n := 1) (pc' := 142) (st' := [dz_I 0]) rfl rfl ?_
              refine wp_s (i := .goto 28) (n := 3) (pc' := 170) (st' := [dz_I 0]) rfl rfl ?_
              replace H := dz_sm H
              exact H
          · replace H := dz_if c25 H
            refine wp_s (i := .iload 4) (n := 2) (pc' := 132) (st' := [dz_I (s5.2 114 32 (dz_c s5.1))]) rfl rfl ?_
            refine wp_s (i := .goto 38) (n := 3) (pc' := 170) (st' := [dz_I (s5.2 114 32 (dz_c s5.1))]) rfl rfl ?_
            replace H := dz_sm H
            exact H
    · replace H := dz_if c4 H
      refine wp_s (i := .aload_n 0) (n := 1) (pc' := 41) (st' := [.ref 114]) rfl rfl ?_
      refine wq_gr (idx := 52) (a := 129) (pc' := 44) rfl rfl ho_M rfl rfl ?_
      refine wp_s (i := .aload_n 0) (n := 1) (pc' := 45) (st' := [.ref 114, .ref 129]) rfl rfl ?_
      refine wq_gr (idx := 13) (a := 116) (pc' := 48) rfl rfl ho_M rfl rfl ?_
      refine wp_s (i := .iconst 2) (n := 1) (pc' := 49) (st' := [dz_I 2, .ref 116, .ref 129]) rfl rfl ?_
      refine wp_s (i := .iload_n 3) (n := 1) (pc' := 50) (st' := [dz_I s3.1, dz_I 2, .ref 116, .ref 129]) rfl rfl ?_
      refine wq_2 (i := .imul) (z := 2 * s3.1) (pc' := 51) rfl rfl (op_mul _ _) rfl ?_
      refine wp_s (i := .iconst 1) (n := 1) (pc' := 52) (st' := [dz_I 1, dz_I (2 * s3.1), .ref 116, .ref 129]) rfl rfl ?_
      refine wq_2 (i := .iadd) (z := (2 * s3.1) + 1) (pc' := 53) rfl rfl (op_add _ _) rfl ?_
      obtain ⟨k29, H⟩ := dz_ck H
      refine wq_ia (j' := dz_c ((2 * s3.1) + 1)) (pc' := 54) rfl ha_M_7 rfl k29.1 k29.2 rfl ?_
      refine wp_s (i := .dup2) (n := 1) (pc' := 55) (st' := [dz_I (s3.2 114 7 (dz_c ((2 * s3.1) + 1))), .ref 129, dz_I (s3.2 114 7 (dz_c ((2 * s3.1) + 1))), .ref 129]) rfl rfl ?_
      obtain ⟨k30, H⟩ := dz_ck H
      refine wq_ia (j' := dz_c (s3.2 114 7 (dz_c ((2 * s3.1) + 1)))) (pc' := 56) rfl ha_M_32 rfl k30.1 k30.2 rfl ?_
      refine wp_s (i := .aload_n 0) (n := 1) (pc' := 57) (st' := [.ref 114, dz_I (s3.2 114 32 (dz_c (s3.2 114 7 (dz_c ((2 * s3.1) + 1))))), dz_I (s3.2 114 7 (dz_c ((2 * s3.1) + 1))), .ref 129]) rfl rfl ?_
      refine wq_gr (idx := 13) (a := 116) (pc' := 60) rfl rfl ho_M rfl rfl ?_
      refine wp_s (i := .iconst 2) (n := 1) (pc' := 61) (st' := [dz_I 2, .ref 116, dz_I (s3.2 114 32 (dz_c (s3.2 114 7 (dz_c ((2 * s3.1) + 1))))), dz_I (s3.2 114 7 (dz_c ((2 * s3.1) + 1))), .ref 129]) rfl rfl ?_
      refine wp_s (i := .iload_n 3) (n := 1) (pc' := 62) (st' := [dz_I s3.1, dz_I 2, .ref 116, dz_I (s3.2 114 32 (dz_c (s3.2 114 7 (dz_c ((2 * s3.1) + 1))))), dz_I (s3.2 114 7 (dz_c ((2 * s3.1) + 1))), .ref 129]) rfl rfl ?_
      refine wq_2 (i := .imul) (z := 2 * s3.1) (pc' := 63) rfl rfl (op_mul _ _) rfl ?_
      obtain ⟨k31, H⟩ := dz_ck H
      refine wq_ia (j' := dz_c (2 * s3.1)) (pc' := 64) rfl ha_M_7 rfl k31.1 k31.2 rfl ?_
      refine wp_s (i := .iload_n 2) (n := 1) (pc' := 65) (st' := [dz_I a2, dz_I (s3.2 114 7 (dz_c (2 * s3.1))), dz_I (s3.2 114 32 (dz_c (s3.2 114 7 (dz_c ((2 * s3.1) + 1))))), dz_I (s3.2 114 7 (dz_c ((2 * s3.1) + 1))), .ref 129]) rfl rfl ?_
      refine wq_2 (i := .imul) (z := (s3.2 114 7 (dz_c (2 * s3.1))) * a2) (pc' := 66) rfl rfl (op_mul _ _) rfl ?_
      refine wq_2 (i := .iadd) (z := (s3.2 114 32 (dz_c (s3.2 114 7 (dz_c ((2 * s3.1) + 1))))) + ((s3.2 114 7 (dz_c (2 * s3.1))) * a2)) (pc' := 67) rfl rfl (op_add _ _) rfl ?_
      refine wq_is (j' := dz_c (s3.2 114 7 (dz_c ((2 * s3.1) + 1)))) (x := (s3.2 114 32 (dz_c (s3.2 114 7 (dz_c ((2 * s3.1) + 1))))) + ((s3.2 114 7 (dz_c (2 * s3.1))) * a2)) (pc' := 68) rfl ha_M_32 rfl k30.1 k30.2 rfl (fun Z32 eZ32 => ?_)
      replace H := dz_le H Z32 eZ32
      clear eZ32
      refine wp_s (i := .aload_n 0) (n := 1) (pc' := 69) (st' := [.ref 114]) rfl rfl ?_
      refine wq_gr (idx := 7) (a := 115) (pc' := 72) rfl rfl ho_M rfl rfl ?_
      refine wp_s (i := .iload_n 1) (n := 1) (pc' := 73) (st' := [dz_I a1, .ref 115]) rfl rfl ?_
      refine wp_s (i := .sipush 135) (n := 3) (pc' := 76) (st' := [dz_I 135, dz_I a1, .ref 115]) rfl rfl ?_
      refine wq_2 (i := .iadd) (z := a1 + 135) (pc' := 77) rfl rfl (op_add _ _) rfl ?_
      refine wp_s (i := .dup2) (n := 1) (pc' := 78) (st' := [dz_I (a1 + 135), .ref 115, dz_I (a1 + 135), .ref 115]) rfl rfl ?_
      obtain ⟨k33, H⟩ := dz_ck H
      refine wq_ia (j' := dz_c (a1 + 135)) (pc' := 79) rfl ha_M_0 rfl k33.1 k33.2 rfl ?_
      refine wp_s (i := .aload_n 0) (n := 1) (pc' := 80) (st' := [.ref 114, dz_I (Z32 114 0 (dz_c (a1 + 135))), dz_I (a1 + 135), .ref 115]) rfl rfl ?_
      refine wq_gr (idx := 13) (a := 116) (pc' := 83) rfl rfl ho_M rfl rfl ?_
      refine wp_s (i := .iconst 2) (n := 1) (pc' := 84) (st' := [dz_I 2, .ref 116, dz_I (Z32 114 0 (dz_c (a1 + 135))), dz_I (a1 + 135), .ref 115]) rfl rfl ?_
      refine wp_s (i := .iload_n 3) (n := 1) (pc' := 85) (st' := [dz_I s3.1, dz_I 2, .ref 116, dz_I (Z32 114 0 (dz_c (a1 + 135))), dz_I (a1 + 135), .ref 115]) rfl rfl ?_
      refine wq_2 (i := .imul) (z := 2 * s3.1) (pc' := 86) rfl rfl (op_mul _ _) rfl ?_
      refine wq_ia (j' := dz_c (2 * s3.1)) (pc' := 87) rfl ha_M_7 rfl k31.1 k31.2 rfl ?_
      refine wp_s (i := .iload_n 2) (n := 1) (pc' := 88) (st' := [dz_I a2, dz_I (Z32 114 7 (dz_c (2 * s3.1))), dz_I (Z32 114 0 (dz_c (a1 + 135))), dz_I (a1 + 135), .ref 115]) rfl rfl ?_
      refine wq_2 (i := .imul) (z := (Z32 114 7 (dz_c (2 * s3.1))) * a2) (pc' := 89) rfl rfl (op_mul _ _) rfl ?_
      refine wq_2 (i := .iadd) (z := (Z32 114 0 (dz_c (a1 + 135))) + ((Z32 114 7 (dz_c (2 * s3.1))) * a2)) (pc' := 90) rfl rfl (op_add _ _) rfl ?_
      refine wq_is (j' := dz_c (a1 + 135)) (x := (Z32 114 0 (dz_c (a1 + 135))) + ((Z32 114 7 (dz_c (2 * s3.1))) * a2)) (pc' := 91) rfl ha_M_0 rfl k33.1 k33.2 rfl (fun Z34 eZ34 => ?_)
      replace H := dz_le H Z34 eZ34
      clear eZ34
      refine wq_inc (k := 3) (d := 1) (x := s3.1) (ls' := [some (.ref 114), some (dz_I a1), some (dz_I a2), some (dz_I (s3.1 + 1)), none, none, none]) (pc' := 94) rfl rfl rfl rfl ?_
      refine wp_s (i := .goto (-62)) (n := 3) (pc' := 32) (st' := []) rfl rfl ?_
      replace H := dz_back H
      exact H
  · replace H := dz_if c2 H
    refine wp_s (i := .aload_n 0) (n := 1) (pc' := 9) (st' := [.ref 114]) rfl rfl ?_
    refine wq_gr (idx := 52) (a := 129) (pc' := 12) rfl rfl ho_M rfl rfl ?_
    refine wp_s (i := .iload_n 3) (n := 1) (pc' := 13) (st' := [dz_I s1.1, .ref 129]) rfl rfl ?_
    refine wp_s (i := .iconst 5) (n := 1) (pc' := 14) (st' := [dz_I 5, dz_I s1.1, .ref 129]) rfl rfl ?_
    refine wq_2 (i := .irem) (z := Int.tmod (dz_c s1.1) 5) (pc' := 15) rfl rfl (op_rem rfl dk_5 (by decide)) rfl ?_
    refine wp_s (i := .iconst 0) (n := 1) (pc' := 16) (st' := [dz_I 0, dz_I (Int.tmod (dz_c s1.1) 5), .ref 129]) rfl rfl ?_
    obtain ⟨k35, H⟩ := dz_ck H
    refine wq_is (j' := dz_c (Int.tmod (dz_c s1.1) 5)) (x := 0) (pc' := 17) rfl ha_M_32 rfl k35.1 k35.2 rfl (fun Z36 eZ36 => ?_)
    replace H := dz_le H Z36 eZ36
    clear eZ36
    refine wp_s (i := .aload_n 0) (n := 1) (pc' := 18) (st' := [.ref 114]) rfl rfl ?_
    refine wq_gr (idx := 55) (a := 130) (pc' := 21) rfl rfl ho_M rfl rfl ?_
    refine wp_s (i := .iload_n 3) (n := 1) (pc' := 22) (st' := [dz_I s1.1, .ref 130]) rfl rfl ?_
    refine wp_s (i := .iconst 0) (n := 1) (pc' := 23) (st' := [dz_I 0, dz_I s1.1, .ref 130]) rfl rfl ?_
    obtain ⟨k37, H⟩ := dz_ck H
    refine wq_is (j' := dz_c s1.1) (x := 0) (pc' := 24) rfl ha_M_33 rfl k37.1 k37.2 rfl (fun Z38 eZ38 => ?_)
    replace H := dz_le H Z38 eZ38
    clear eZ38
    refine wq_inc (k := 3) (d := 1) (x := s1.1) (ls' := [some (.ref 114), some (dz_I a1), some (dz_I a2), some (dz_I (s1.1 + 1)), none, none, none]) (pc' := 27) rfl rfl rfl rfl ?_
    refine wp_s (i := .goto (-25)) (n := 3) (pc' := 2) (st' := []) rfl rfl ?_
    replace H := dz_back H
    exact H
-- 152
def jf_M_sounds (a1 : Int) (a2 : Int) (a3 : Int) (Z : dz_Z) : Option (Int × dz_Z) := if 0 ≤ dz_c (10 + a2) ∧ dz_c (10 + a2) < 700 then if 0 ≤ dz_c (18 + a2) ∧ dz_c (18 + a2) < 700 then dz_a (dz_u Z 114 34 0 0) fun Z3 => if dz_c (Z 114 0 (dz_c (10 + a2))) = 0 then (if 0 ≤ dz_c (a1 + 136) ∧ dz_c (a1 + 136) < 700 then dz_a (dz_u Z3 114 0 (dz_c (a1 + 136)) ((Z3 114 0 (dz_c (a1 + 136))) + a3)) fun Z6 => if dz_c (Z 114 0 (dz_c (10 + a2))) ≠ 0 then (some (0, Z6)) else (if dz_c a3 ≤ 0 then (some (0, Z6)) else (some (1, Z6))) else none) else (if dz_c (Z 114 0 (dz_c (10 + a2))) ≠ 5 then (if dz_c (Z 114 0 (dz_c (10 + a2))) ≠ 3 then (if 0 ≤ dz_c ((a1 + 86) + a2) ∧ dz_c ((a1 + 86) + a2) < 700 then if dz_c (Z 114 0 (dz_c (10 + a2))) ≠ 2 then (if dz_c (Z 114 0 (dz_c (18 + a2))) ≠ 0 then dz_a ((Int.tdiv (dz_c ((Z3 114 0 (dz_c ((a1 + 86) + a2))) + a3)) (dz_c (Z 114 0 (dz_c (18 + a2))))) * (Z 114 0 (dz_c (18 + a2)))) fun x14 => dz_a (dz_u Z3 114 0 (dz_c ((a1 + 86) + a2)) (((Z3 114 0 (dz_c ((a1 + 86) + a2))) + a3) - x14)) fun Z15 => if 0 ≤ dz_c (a1 + 136) ∧ dz_c (a1 + 136) < 700 then Option.bind (α := Int) (if dz_c (Z 114 0 (dz_c (10 + a2))) ≠ 1 then (some 0) else (some x14)) (fun (q18 : Int) => dz_a (dz_u Z15 114 0 (dz_c (a1 + 136)) ((Z15 114 0 (dz_c (a1 + 136))) + q18)) fun Z19 => Option.bind (α := Int) (if dz_c (Z 114 0 (dz_c (10 + a2))) ≠ 4 then (some 0) else (some x14)) (fun (q21 : Int) => dz_a (dz_u Z19 114 34 0 q21) fun Z22 => some (Int.tdiv (dz_c ((Z3 114 0 (dz_c ((a1 + 86) + a2))) + a3)) (dz_c (Z 114 0 (dz_c (18 + a2)))), Z22))) else none else none) else (Option.bind (α := Int) (if dz_c ((Z3 114 0 (dz_c ((a1 + 86) + a2))) + a3) < dz_c (Z 114 0 (dz_c (18 + a2))) then (if dz_c ((Z3 114 0 (dz_c ((a1 + 86) + a2))) + a3) ≤ 0 then (some 0) else (some 1)) else (some ((Z3 114 0 (dz_c ((a1 + 86) + a2))) + a3))) (fun (q27 : Int) => if 0 ≤ dz_c (a1 + 136) ∧ dz_c (a1 + 136) < 700 then dz_a (dz_u Z3 114 0 (dz_c (a1 + 136)) ((Z3 114 0 (dz_c (a1 + 136))) + q27)) fun Z29 => dz_a (dz_u Z29 114 0 (dz_c ((a1 + 86) + a2)) (((Z3 114 0 (dz_c ((a1 + 86) + a2))) + a3) - q27)) fun Z30 => if dz_c ((Z3 114 0 (dz_c ((a1 + 86) + a2))) + a3) < dz_c (Z 114 0 (dz_c (18 + a2))) then (some (0, Z30)) else (some (1, Z30)) else none)) else none) else (if 0 ≤ dz_c ((a1 + 94) + a2) ∧ dz_c ((a1 + 94) + a2) < 700 then if 0 ≤ dz_c (a1 + 136) ∧ dz_c (a1 + 136) < 700 then dz_a (dz_u Z3 114 0 (dz_c (a1 + 136)) ((Z3 114 0 (dz_c (a1 + 136))) + a3)) fun Z36 => if dz_c (Z 114 0 (dz_c (18 + a2))) ≠ 0 then dz_a (dz_u Z36 114 0 (dz_c ((a1 + 94) + a2)) (Int.tmod (dz_c ((Z3 114 0 (dz_c ((a1 + 94) + a2))) + a3)) (dz_c (Z 114 0 (dz_c (18 + a2)))))) fun Z38 => some (Int.tdiv (dz_c ((Z3 114 0 (dz_c ((a1 + 94) + a2))) + a3)) (dz_c (Z 114 0 (dz_c (18 + a2)))), Z38) else none else none else none)) else (if 0 ≤ dz_c (a1 + 136) ∧ dz_c (a1 + 136) < 700 then dz_a (dz_u Z3 114 0 (dz_c (a1 + 136)) ((Z3 114 0 (dz_c (a1 + 136))) + a3)) fun Z40 => if dz_c (Z 114 0 (dz_c (10 + a2))) ≠ 0 then (some (0, Z40)) else (if dz_c a3 ≤ 0 then (some (0, Z40)) else (some (1, Z40))) else none)) else none else none
set_option maxRecDepth 20000 in
theorem jw_M_sounds {X : Option (List Int32)} {D : Nat} {Q : Option Value → mm_H → Prop} (a1 : Int) (a2 : Int) (a3 : Int) (Z : dz_Z) (H : dz_p (jf_M_sounds a1 a2 a3 Z) (fun q => Q (some (dz_I q.1)) (hz_0 q.2))) : mm_Wp X D mm_r152 0 [some (.ref 114), some (dz_I a1), some (dz_I a2), some (dz_I a3), none, none, none, none] [] (hz_0 Z) Q := by
  unfold jf_M_sounds at H
  refine wp_s (i := .aload_n 0) (n := 1) (pc' := 1) (st' := [.ref 114]) rfl rfl ?_
  refine wq_gr (idx := 7) (a := 115) (pc' := 4) rfl rfl ho_M rfl rfl ?_
  refine wp_s (i := .bipush 10) (n := 2) (pc' := 6) (st' := [dz_I 10, .ref 115]) rfl rfl ?_
  refine wp_s (i := .iload_n 2) (n := 1) (pc' := 7) (st' := [dz_I a2, dz_I 10, .ref 115]) rfl rfl ?_
  refine wq_2 (i := .iadd) (z := 10 + a2) (pc' := 8) rfl rfl (op_add _ _) rfl ?_
  obtain ⟨k1, H⟩ := dz_ck H
  refine wq_ia (j' := dz_c (10 + a2)) (pc' := 9) rfl ha_M_0 rfl k1.1 k1.2 rfl ?_
  refine wq_st (k := 4) (i := .istore 4) (n := 2) (ls' := [some (.ref 114), some (dz_I a1), some (dz_I a2), some (dz_I a3), some (dz_I (Z 114 0 (dz_c (10 + a2)))), none, none, none]) (pc' := 11) rfl rfl rfl rfl rfl ?_
  refine wp_s (i := .aload_n 0) (n := 1) (pc' := 12) (st' := [.ref 114]) rfl rfl ?_
  refine wq_gr (idx := 7) (a := 115) (pc' := 15) rfl rfl ho_M rfl rfl ?_
  refine wp_s (i := .bipush 18) (n := 2) (pc' := 17) (st' := [dz_I 18, .ref 115]) rfl rfl ?_
  refine wp_s (i := .iload_n 2) (n := 1) (pc' := 18) (st' := [dz_I a2, dz_I 18, .ref 115]) rfl rfl ?_
  refine wq_2 (i := .iadd) (z := 18 + a2) (pc' := 19) rfl rfl (op_add _ _) rfl ?_
  obtain ⟨k2, H⟩ := dz_ck H
  refine wq_ia (j' := dz_c (18 + a2)) (pc' := 20) rfl ha_M_0 rfl k2.1 k2.2 rfl ?_
  refine wq_st (k := 5) (i := .istore 5) (n := 2) (ls' := [some (.ref 114), some (dz_I a1), some (dz_I a2), some (dz_I a3), some (dz_I (Z 114 0 (dz_c (10 + a2)))), some (dz_I (Z 114 0 (dz_c (18 + a2)))), none, none]) (pc' := 22) rfl rfl rfl rfl rfl ?_
  refine wp_s (i := .aload_n 0) (n := 1) (pc' := 23) (st' := [.ref 114]) rfl rfl ?_
  refine wp_s (i := .iconst 0) (n := 1) (pc' := 24) (st' := [dz_I 0, .ref 114]) rfl rfl ?_
  refine wq_pi (idx := 213) (x := 0) (pc' := 27) rfl rfl rfl ho_M rfl rfl rfl rfl (fun Z3 eZ3 => ?_)
  replace H := dz_le H Z3 eZ3
  clear eZ3
  refine wp_s (i := .iload 4) (n := 2) (pc' := 29) (st' := [dz_I (Z 114 0 (dz_c (10 + a2)))]) rfl rfl ?_
  refine wq_if (p := dz_c (Z 114 0 (dz_c (10 + a2))) = 0) (tt := 38) (pc' := 32) rfl rfl (cz_eq rfl) rfl (fun c4 => ?_) (fun c4 => ?_)
  · replace H := dz_it c4 H
    refine wp_s (i := .aload_n 0) (n := 1) (pc' := 39) (st' := [.ref 114]) rfl rfl ?_
    refine wq_gr (idx := 7) (a := 115) (pc' := 42) rfl rfl ho_M rfl rfl ?_
    refine wp_s (i := .iload_n 1) (n := 1) (pc' := 43) (st' := [dz_I a1, .ref 115]) rfl rfl ?_
    refine wp_s (i := .sipush 136) (n := 3) (pc' := 46) (st' := [dz_I 136, dz_I a1, .ref 115]) rfl rfl ?_
    refine wq_2 (i := .iadd) (z := a1 + 136) (pc' := 47) rfl rfl (op_add _ _) rfl ?_
    refine wp_s (i := .dup2) (n := 1) (pc' := 48) (st' := [dz_I (a1 + 136), .ref 115, dz_I (a1 + 136), .ref 115]) rfl rfl ?_
    obtain ⟨k5, H⟩ := dz_ck H
    refine wq_ia (j' := dz_c (a1 + 136)) (pc' := 49) rfl ha_M_0 rfl k5.1 k5.2 rfl ?_
    refine wp_s (i := .iload_n 3) (n := 1) (pc' := 50) (st' := [dz_I a3, dz_I (Z3 114 0 (dz_c (a1 + 136))), dz_I (a1 + 136), .ref 115]) rfl rfl ?_
    refine wq_2 (i := .iadd) (z := (Z3 114 0 (dz_c (a1 + 136))) + a3) (pc' := 51) rfl rfl (op_add _ _) rfl ?_
    refine wq_is (j' := dz_c (a1 + 136)) (x := (Z3 114 0 (dz_c (a1 + 136))) + a3) (pc' := 52) rfl ha_M_0 rfl k5.1 k5.2 rfl (fun Z6 eZ6 => ?_)
    replace H := dz_le H Z6 eZ6
    clear eZ6
    refine wp_s (i := .iload 4) (n := 2) (pc' := 54) (st' := [dz_I (Z 114 0 (dz_c (10 + a2)))]) rfl rfl ?_
    refine wq_if (p := dz_c (Z 114 0 (dz_c (10 + a2))) ≠ 0) (tt := 65) (pc' := 57) rfl rfl (cz_ne rfl) rfl (fun c7 => ?_) (fun c7 => ?_)
    · replace H := dz_it c7 H
      refine wp_s (i := .iconst 0) (n := 1) (pc' := 66) (st' := [dz_I 0]) rfl rfl ?_
      refine wq_ri rfl rfl ?_
      replace H := dz_sm H
      exact H
    · replace H := dz_if c7 H
      refine wp_s (i := .iload_n 3) (n := 1) (pc' := 58) (st' := [dz_I a3]) rfl rfl ?_
      refine wq_if (p := dz_c a3 ≤ 0) (tt := 65) (pc' := 61) rfl rfl (cz_le rfl) rfl (fun c8 => ?_) (fun c8 => ?_)
      · replace H := dz_it c8 H
        refine wp_s (i := .iconst 0) (n := 1) (pc' := 66) (st' := [dz_I 0]) rfl rfl ?_
        refine wq_ri rfl rfl ?_
        replace H := dz_sm H
        exact H
      · replace H := dz_if c8 H
        refine wp_s (i := .iconst 1) (n := 1) (pc' := 62) (st' := [dz_I 1]) rfl rfl ?_
        refine wp_s (i := .goto 4) (n := 3) (pc' := 66) (st' := [dz_I 1]) rfl rfl ?_
        refine wq_ri rfl rfl ?_
        replace H := dz_sm H
        exact H
  · replace H := dz_if c4 H
    refine wp_s (i := .iload 4) (n := 2) (pc' := 34) (st' := [dz_I (Z 114 0 (dz_c (10 + a2)))]) rfl rfl ?_
    refine wp_s (i := .iconst 5) (n := 1) (pc' := 35) (st' := [dz_I 5, dz_I (Z 114 0 (dz_c (10 + a2)))]) rfl rfl ?_
    refine wq_ic (p := dz_c (Z 114 0 (dz_c (10 + a2))) ≠ 5) (tt := 67) (pc' := 38) rfl rfl (cq_ne rfl dk_5) rfl (fun c9 => ?_) (fun c9 => ?_)
    · replace H := dz_it c9 H
      refine wp_s (i := .iload 4) (n := 2) (pc' := 69) (st' := [dz_I (Z 114 0 (dz_c (10 + a2)))]) rfl rfl ?_
      refine wp_s (i := .iconst 3) (n := 1) (pc' := 70) (st' := [dz_I 3, dz_I (Z 114 0 (dz_c (10 + a2)))]) rfl rfl ?_
      refine wq_ic (p := dz_c (Z 114 0 (dz_c (10 + a2))) ≠ 3) (tt := 124) (pc' := 73) rfl rfl (cq_ne rfl dk_3) rfl (fun c10 => ?_) (fun c10 => ?_)
      · replace H := dz_it c10 H
        refine wp_s (i := .aload_n 0) (n := 1) (pc' := 125) (st' := [.ref 114]) rfl rfl ?_
        refine wq_gr (idx := 7) (a := 115) (pc' := 128) rfl rfl ho_M rfl rfl ?_
        refine wp_s (i := .iload_n 1) (n := 1) (pc' := 129) (st' := [dz_I a1, .ref 115]) rfl rfl ?_
        refine wp_s (i := .bipush 86) (n := 2) (pc' := 131) (st' := [dz_I 86, dz_I a1, .ref 115]) rfl rfl ?_
        refine wq_2 (i := .iadd) (z := a1 + 86) (pc' := 132) rfl rfl (op_add _ _) rfl ?_
        refine wp_s (i := .iload_n 2) (n := 1) (pc' := 133) (st' := [dz_I a2, dz_I (a1 + 86), .ref 115]) rfl rfl ?_
        refine wq_2 (i := .iadd) (z := (a1 + 86) + a2) (pc' := 134) rfl rfl (op_add _ _) rfl ?_
        obtain ⟨k11, H⟩ := dz_ck H
        refine wq_ia (j' := dz_c ((a1 + 86) + a2)) (pc' := 135) rfl ha_M_0 rfl k11.1 k11.2 rfl ?_
        refine wp_s (i := .iload_n 3) (n := 1) (pc' := 136) (st' := [dz_I a3, dz_I (Z3 114 0 (dz_c ((a1 + 86) + a2)))]) rfl rfl ?_
        refine wq_2 (i := .iadd) (z := (Z3 114 0 (dz_c ((a1 + 86) + a2))) + a3) (pc' := 137) rfl rfl (op_add _ _) rfl ?_
        refine wq_st (k := 6) (i := .istore 6) (n := 2) (ls' := [some (.ref 114), some (dz_I a1), some (dz_I a2), some (dz_I a3), some (dz_I (Z 114 0 (dz_c (10 + a2)))), some (dz_I (Z 114 0 (dz_c (18 + a2)))), some (dz_I ((Z3 114 0 (dz_c ((a1 + 86) + a2))) + a3)), none]) (pc' := 139) rfl rfl rfl rfl rfl ?_
        refine wp_s (i := .iload 4) (n := 2) (pc' := 141) (st' := [dz_I (Z 114 0 (dz_c (10 + a2)))]) rfl rfl ?_
        refine wp_s (i := .iconst 2) (n := 1) (pc' := 142) (st' := [dz_I 2, dz_I (Z 114 0 (dz_c (10 + a2)))]) rfl rfl ?_
        refine wq_ic (p := dz_c (Z 114 0 (dz_c (10 + a2))) ≠ 2) (tt := 213) (pc' := 145) rfl rfl (cq_ne rfl dk_2) rfl (fun c12 => ?_) (fun c12 => ?_)
        · replace H := dz_it c12 H
          refine wp_s (i := .iload 6) (n := 2) (pc' := 215) (st' := [dz_I ((Z3 114 0 (dz_c ((a1 + 86) + a2))) + a3)]) rfl rfl ?_
          refine wp_s (i := .iload 5) (n := 2) (pc' := 217) (st' := [dz_I (Z 114 0 (dz_c (18 + a2))), dz_I ((Z3 114 0 (dz_c ((a1 + 86) + a2))) + a3)]) rfl rfl ?_
          obtain ⟨k13, H⟩ := dz_ck H
          refine wq_2 (i := .idiv) (z := Int.tdiv (dz_c ((Z3 114 0 (dz_c ((a1 + 86) + a2))) + a3)) (dz_c (Z 114 0 (dz_c (18 + a2))))) (pc' := 218) rfl rfl (op_div rfl rfl k13) rfl ?_
          refine wp_s (i := .iload 5) (n := 2) (pc' := 220) (st' := [dz_I (Z 114 0 (dz_c (18 + a2))), dz_I (Int.tdiv (dz_c ((Z3 114 0 (dz_c ((a1 + 86) + a2))) + a3)) (dz_c (Z 114 0 (dz_c (18 + a2)))))]) rfl rfl ?_
          refine wq_2 (i := .imul) (z := (Int.tdiv (dz_c ((Z3 114 0 (dz_c ((a1 + 86) + a2))) + a3)) (dz_c (Z 114 0 (dz_c (18 + a2))))) * (Z 114 0 (dz_c (18 + a2)))) (pc' := 221) rfl rfl (op_mul _ _) rfl ?_
          refine wq_sa (k := 7) (F := fun x14 => [some (.ref 114), some (dz_I a1), some (dz_I a2), some (dz_I a3), some (dz_I (Z 114 0 (dz_c (10 + a2)))), some (dz_I (Z 114 0 (dz_c (18 + a2)))), some (dz_I ((Z3 114 0 (dz_c ((a1 + 86) + a2))) + a3)), some (dz_I x14)]) (i := .istore 7) (n := 2) (pc' := 223) rfl rfl (fun _ => rfl) (fun _ => rfl) rfl (fun x14 ex14 => ?_)
          show mm_Wp _ _ _ 223 [some (.ref 114), some (dz_I a1), some (dz_I a2), some (dz_I a3), some (dz_I (Z 114 0 (dz_c (10 + a2)))), some (dz_I (Z 114 0 (dz_c (18 + a2)))), some (dz_I ((Z3 114 0 (dz_c ((a1 + 86) + a2))) + a3)), some (dz_I x14)] [] _ _
          replace H := dz_le H x14 ex14
          clear ex14
          refine wp_s (i := .aload_n 0) (n := 1) (pc' := 224) (st' := [.ref 114]) rfl rfl ?_
          refine wq_gr (idx := 7) (a := 115) (pc' := 227) rfl rfl ho_M rfl rfl ?_
          refine wp_s (i := .iload_n 1) (n := 1) (pc' := 228) (st' := [dz_I a1, .ref 115]) rfl rfl ?_
          refine wp_s (i := .bipush 86) (n := 2) (pc' := 230) (st' := [dz_I 86, dz_I a1, .ref 115]) rfl rfl ?_
          refine wq_2 (i := .iadd) (z := a1 + 86) (pc' := 231) rfl rfl (op_add _ _) rfl ?_
          refine wp_s (i := .iload_n 2) (n := 1) (pc' := 232) (st' := [dz_I a2, dz_I (a1 + 86), .ref 115]) rfl rfl ?_
          refine wq_2 (i := .iadd) (z := (a1 + 86) + a2) (pc' := 233) rfl rfl (op_add _ _) rfl ?_
          refine wp_s (i := .iload 6) (n := 2) (pc' := 235) (st' := [dz_I ((Z3 114 0 (dz_c ((a1 + 86) + a2))) + a3), dz_I ((a1 + 86) + a2), .ref 115]) rfl rfl ?_
          refine wp_s (i := .iload 7) (n := 2) (pc' := 237) (st' := [dz_I x14, dz_I ((Z3 114 0 (dz_c ((a1 + 86) + a2))) + a3), dz_I ((a1 + 86) + a2), .ref 115]) rfl rfl ?_
          refine wq_2 (i := .isub) (z := ((Z3 114 0 (dz_c ((a1 + 86) + a2))) + a3) - x14) (pc' := 238) rfl rfl (op_sub _ _) rfl ?_
          refine wq_is (j' := dz_c ((a1 + 86) + a2)) (x := ((Z3 114 0 (dz_c ((a1 + 86) + a2))) + a3) - x14) (pc' := 239) rfl ha_M_0 rfl k11.1 k11.2 rfl (fun Z15 eZ15 => ?_)
          replace H := dz_le H Z15 eZ15
          clear eZ15
          refine wp_s (i := .aload_n 0) (n := 1) (pc' := 240) (st' := [.ref 114]) rfl rfl ?_
          refine wq_gr (idx := 7) (a := 115) (pc' := 243) rfl rfl ho_M rfl rfl ?_
          refine wp_s (i := .iload_n 1) (n := 1) (pc' := 244) (st' := [dz_I a1, .ref 115]) rfl rfl ?_
          refine wp_s (i := .sipush 136) (n := 3) (pc' := 247) (st' := [dz_I 136, dz_I a1, .ref 115]) rfl rfl ?_
          refine wq_2 (i := .iadd) (z := a1 + 136) (pc' := 248) rfl rfl (op_add _ _) rfl ?_
          refine wp_s (i := .dup2) (n := 1) (pc' := 249) (st' := [dz_I (a1 + 136), .ref 115, dz_I (a1 + 136), .ref 115]) rfl rfl ?_
          obtain ⟨k16, H⟩ := dz_ck H
          refine wq_ia (j' := dz_c (a1 + 136)) (pc' := 250) rfl ha_M_0 rfl k16.1 k16.2 rfl ?_
          refine wp_s (i := .iload 4) (n := 2) (pc' := 252) (st' := [dz_I (Z 114 0 (dz_c (10 + a2))), dz_I (Z15 114 0 (dz_c (a1 + 136))), dz_I (a1 + 136), .ref 115]) rfl rfl ?_
          refine wp_s (i := .iconst 1) (n := 1) (pc' := 253) (st' := [dz_I 1, dz_I (Z 114 0 (dz_c (10 + a2))), dz_I (Z15 114 0 (dz_c (a1 + 136))), dz_I (a1 + 136), .ref 115]) rfl rfl ?_
          refine dz_jn (P := fun (q18 : Int) => mm_Wp X D mm_r152 262 [some (.ref 114), some (dz_I a1), some (dz_I a2), some (dz_I a3), some (dz_I (Z 114 0 (dz_c (10 + a2)))), some (dz_I (Z 114 0 (dz_c (18 + a2)))), some (dz_I ((Z3 114 0 (dz_c ((a1 + 86) + a2))) + a3)), some (dz_I x14)] [dz_I q18, dz_I (Z15 114 0 (dz_c (a1 + 136))), dz_I (a1 + 136), .ref 115] (hz_0 Z15) Q) (dz_bi H) (fun q18 H => ?_) (fun H => ?_)
          · skip
            refine wq_2 (i := .iadd) (z := (Z15 114 0 (dz_c (a1 + 136))) + q18) (pc' := 263) rfl rfl (op_add _ _) rfl ?_
            refine wq_is (j' := dz_c (a1 + 136)) (x := (Z15 114 0 (dz_c (a1 + 136))) + q18) (pc' := 264) rfl ha_M_0 rfl k16.1 k16.2 rfl (fun Z19 eZ19 => ?_)
            replace H := dz_le H Z19 eZ19
            clear eZ19
            refine wp_s (i := .aload_n 0) (n := 1) (pc' := 265) (st' := [.ref 114]) rfl rfl ?_
            refine wp_s (i := .iload 4) (n := 2) (pc' := 267) (st' := [dz_I (Z 114 0 (dz_c (10 + a2))), .ref 114]) rfl rfl ?_
            refine wp_s (i := .iconst 4) (n := 1) (pc' := 268) (st' := [dz_I 4, dz_I (Z 114 0 (dz_c (10 + a2))), .ref 114]) rfl rfl ?_
            refine dz_jn (P := fun (q21 : Int) => mm_Wp X D mm_r152 277 [some (.ref 114), some (dz_I a1), some (dz_I a2), some (dz_I a3), some (dz_I (Z 114 0 (dz_c (10 + a2)))), some (dz_I (Z 114 0 (dz_c (18 + a2)))), some (dz_I ((Z3 114 0 (dz_c ((a1 + 86) + a2))) + a3)), some (dz_I x14)] [dz_I q21, .ref 114] (hz_0 Z19) Q) (dz_bi H) (fun q21 H => ?_) (fun H => ?_)
            · skip
              refine wq_pi (idx := 213) (x := q21) (pc' := 280) rfl rfl rfl ho_M rfl rfl rfl rfl (fun Z22 eZ22 => ?_)
              replace H := dz_le H Z22 eZ22
              clear eZ22
              refine wp_s (i := .iload 6) (n := 2) (pc' := 282) (st' := [dz_I ((Z3 114 0 (dz_c ((a1 + 86) + a2))) + a3)]) rfl rfl ?_
              refine wp_s (i := .iload 5) (n := 2) (pc' := 284) (st' := [dz_I (Z 114 0 (dz_c (18 + a2))), dz_I ((Z3 114 0 (dz_c ((a1 + 86) + a2))) + a3)]) rfl rfl ?_
              refine wq_2 (i := .idiv) (z := Int.tdiv (dz_c ((Z3 114 0 (dz_c ((a1 + 86) + a2))) + a3)) (dz_c (Z 114 0 (dz_c (18 + a2))))) (pc' := 285) rfl rfl (op_div rfl rfl k13) rfl ?_
              refine wq_ri rfl rfl ?_
              replace H := dz_sm H
              exact H
            · skip
              refine wq_ic (p := dz_c (Z 114 0 (dz_c (10 + a2))) ≠ 4) (tt := 276) (pc' := 271) rfl rfl (cq_ne rfl dk_4) rfl (fun c23 => ?_) (fun c23 => ?_)
              · replace H := dz_it c23 H
                refine wp_s (i := .iconst 0) (n := 1) (pc' := 277) (st' := [dz_I 0, .ref 114]) rfl rfl ?_
                replace H := dz_sm H
                exact H
              · replace H := dz_if c23 H
                refine wp_s (i := .iload 7) (n := 2) (pc' := 273) (st' := [dz_I x14, .ref 114]) rfl rfl ?_
                refine wp_s (i := .goto 4) (n := 3) (pc' := 277) (st' := [dz_I x14, .ref 114]) rfl rfl ?_
                replace H := dz_sm H
                exact H
          · skip
            refine wq_ic (p := dz_c (Z 114 0 (dz_c (10 + a2))) ≠ 1) (tt := 261) (pc' := 256) rfl rfl (cq_ne rfl dk_1) rfl (fun c24 => ?_) (fun c24 => ?_)
            · replace H := dz_it c24 H
              refine wp_s (i := .iconst 0) (n := 1) (pc' := 262) (st' := [dz_I 0, dz_I (Z15 114 0 (dz_c (a1 + 136))), dz_I (a1 + 136), .ref 115]) rfl rfl ?_
              replace H := dz_sm H
              exact H
            · replace H := dz_if c24 H
              refine wp_s (i := .iload 7) (n := 2) (pc' := 258) (st' := [dz_I x14, dz_I (Z15 114 0 (dz_c (a1 + 136))), dz_I (a1 + 136), .ref 115]) rfl rfl ?_
              refine wp_s (i := .goto 4) (n := 3) (pc' := 262) (st' := [dz_I x14, dz_I (Z15 114 0 (dz_c (a1 + 136))), dz_I (a1 + 136), .ref 115]) rfl rfl ?_
              replace H := dz_sm H
              exact H
        · replace H := dz_if c12 H
          refine wp_s (i := .iload 6) (n := 2) (pc' := 147) (st' := [dz_I ((Z3 114 0 (dz_c ((a1 + 86) + a2))) + a3)]) rfl rfl ?_
          refine wp_s (i := .iload 5) (n := 2) (pc' := 149) (st' := [dz_I (Z 114 0 (dz_c (18 + a2))), dz_I ((Z3 114 0 (dz_c ((a1 + 86) + a2))) + a3)]) rfl rfl ?_
          refine dz_jn (P := fun (q27 : Int) => mm_Wp X D mm_r152 167 [some (.ref 114), some (dz_I a1), some (dz_I a2), some (dz_I a3), some (dz_I (Z 114 0 (dz_c (10 + a2)))), some (dz_I (Z 114 0 (dz_c (18 + a2)))), some (dz_I ((Z3 114 0 (dz_c ((a1 + 86) + a2))) + a3)), none] [dz_I q27] (hz_0 Z3) Q) (dz_bi H) (fun q27 H => ?_) (fun H => ?_)
          · skip
            refine wq_st (k := 7) (i := .istore 7) (n := 2) (ls' := [some (.ref 114), some (dz_I a1), some (dz_I a2), some (dz_I a3), some (dz_I (Z 114 0 (dz_c (10 + a2)))), some (dz_I (Z 114 0 (dz_c (18 + a2)))), some (dz_I ((Z3 114 0 (dz_c ((a1 + 86) + a2))) + a3)), some (dz_I q27)]) (pc' := 169) rfl rfl rfl rfl rfl ?_
            refine wp_s (i := .aload_n 0) (n := 1) (pc' := 170) (st' := [.ref 114]) rfl rfl ?_
            refine wq_gr (idx := 7) (a := 115) (pc' := 173) rfl rfl ho_M rfl rfl ?_
            refine wp_s (i := .iload_n 1) (n := 1) (pc' := 174) (st' := [dz_I a1, .ref 115]) rfl rfl ?_
            refine wp_s (i := .sipush 136) (n := 3) (pc' := 177) (st' := [dz_I 136, dz_I a1, .ref 115]) rfl rfl ?_
            refine wq_2 (i := .iadd) (z := a1 + 136) (pc' := 178) rfl rfl (op_add _ _) rfl ?_
            refine wp_s (i := .dup2) (n := 1) (pc' := 179) (st' := [dz_I (a1 + 136), .ref 115, dz_I (a1 + 136), .ref 115]) rfl rfl ?_
            obtain ⟨k28, H⟩ := dz_ck H
            refine wq_ia (j' := dz_c (a1 + 136)) (pc' := 180) rfl ha_M_0 rfl k28.1 k28.2 rfl ?_
            refine wp_s (i := .iload 7) (n := 2) (pc' := 182) (st' := [dz_I q27, dz_I (Z3 114 0 (dz_c (a1 + 136))), dz_I (a1 + 136), .ref 115]) rfl rfl ?_
            refine wq_2 (i := .iadd) (z := (Z3 114 0 (dz_c (a1 + 136))) + q27) (pc' := 183) rfl rfl (op_add _ _) rfl ?_
            refine wq_is (j' := dz_c (a1 + 136)) (x := (Z3 114 0 (dz_c (a1 + 136))) + q27) (pc' := 184) rfl ha_M_0 rfl k28.1 k28.2 rfl (fun Z29 eZ29 => ?_)
            replace H := dz_le H Z29 eZ29
            clear eZ29
            refine wp_s (i := .aload_n 0) (n := 1) (pc' := 185) (st' := [.ref 114]) rfl rfl ?_
            refine wq_gr (idx := 7) (a := 115) (pc' := 188) rfl rfl ho_M rfl rfl ?_
            refine wp_s (i := .iload_n 1) (n := 1) (pc' := 189) (st' := [dz_I a1, .ref 115]) rfl rfl ?_
            refine wp_s (i := .bipush 86) (n := 2) (pc' := 191) (st' := [dz_I 86, dz_I a1, .ref 115]) rfl rfl ?_
            refine wq_2 (i := .iadd) (z := a1 + 86) (pc' := 192) rfl rfl (op_add _ _) rfl ?_
            refine wp_s (i := .iload_n 2) (n := 1) (pc' := 193) (st' := [dz_I a2, dz_I (a1 + 86), .ref 115]) rfl rfl ?_
            refine wq_2 (i := .iadd) (z := (a1 + 86) + a2) (pc' := 194) rfl rfl (op_add _ _) rfl ?_
            refine wp_s (i := .iload 6) (n := 2) (pc' := 196) (st' := [dz_I ((Z3 114 0 (dz_c ((a1 + 86) + a2))) + a3), dz_I ((a1 + 86) + a2), .ref 115]) rfl rfl ?_
            refine wp_s (i := .iload 7) (n := 2) (pc' := 198) (st' := [dz_I q27, dz_I ((Z3 114 0 (dz_c ((a1 + 86) + a2))) + a3), dz_I ((a1 + 86) + a2), .ref 115]) rfl rfl ?_
            refine wq_2 (i := .isub) (z := ((Z3 114 0 (dz_c ((a1 + 86) + a2))) + a3) - q27) (pc' := 199) rfl rfl (op_sub _ _) rfl ?_
            refine wq_is (j' := dz_c ((a1 + 86) + a2)) (x := ((Z3 114 0 (dz_c ((a1 + 86) + a2))) + a3) - q27) (pc' := 200) rfl ha_M_0 rfl k11.1 k11.2 rfl (fun Z30 eZ30 => ?_)
            replace H := dz_le H Z30 eZ30
            clear eZ30
            refine wp_s (i := .iload 6) (n := 2) (pc' := 202) (st' := [dz_I ((Z3 114 0 (dz_c ((a1 + 86) + a2))) + a3)]) rfl rfl ?_
            refine wp_s (i := .iload 5) (n := 2) (pc' := 204) (st' := [dz_I (Z 114 0 (dz_c (18 + a2))), dz_I ((Z3 114 0 (dz_c ((a1 + 86) + a2))) + a3)]) rfl rfl ?_
            refine wq_ic (p := dz_c ((Z3 114 0 (dz_c ((a1 + 86) + a2))) + a3) < dz_c (Z 114 0 (dz_c (18 + a2)))) (tt := 211) (pc' := 207) rfl rfl (cq_lt rfl rfl) rfl (fun c31 => ?_) (fun c31 => ?_)
            · replace H := dz_it c31 H
              refine wp_s (i := .iconst 0) (n := 1) (pc' := 212) (st' := [dz_I 0]) rfl rfl ?_
              refine wq_ri rfl rfl ?_
              replace H := dz_sm H
              exact H
            · replace H := dz_if c31 H
              refine wp_s (i := .iconst 1) (n := 1) (pc' := 208) (st' := [dz_I 1]) rfl rfl ?_
              refine wp_s (i := .goto 4) (n := 3) (pc' := 212) (st' := [dz_I 1]) rfl rfl ?_
              refine wq_ri rfl rfl ?_
              replace H := dz_sm H
              exact H
          · skip
            refine wq_ic (p := dz_c ((Z3 114 0 (dz_c ((a1 + 86) + a2))) + a3) < dz_c (Z 114 0 (dz_c (18 + a2)))) (tt := 157) (pc' := 152) rfl rfl (cq_lt rfl rfl) rfl (fun c32 => ?_) (fun c32 => ?_)
            · replace H := dz_it c32 H
              refine wp_s (i := .iload 6) (n := 2) (pc' := 159) (st' := [dz_I ((Z3 114 0 (dz_c ((a1 + 86) + a2))) + a3)]) rfl rfl ?_
              refine wq_if (p := dz_c ((Z3 114 0 (dz_c ((a1 + 86) + a2))) + a3) ≤ 0) (tt := 166) (pc' := 162) rfl rfl (cz_le rfl) rfl (fun c33 => ?_) (fun c33 => ?_)
              · replace H := dz_it c33 H
                refine wp_s (i := .iconst 0) (n := 1) (pc' := 167) (st' := [dz_I 0]) rfl rfl ?_
                replace H := dz_sm H
                exact H
              · replace H := dz_if c33 H
                refine wp_s (i := .iconst 1) (n := 1) (pc' := 163) (st' := [dz_I 1]) rfl rfl ?_
                refine wp_s (i := .goto 4) (n := 3) (pc' := 167) (st' := [dz_I 1]) rfl rfl ?_
                replace H := dz_sm H
                exact H
            · replace H := dz_if c32 H
              refine wp_s (i := .iload 6) (n := 2) (pc' := 154) (st' := [dz_I ((Z3 114 0 (dz_c ((a1 + 86) + a2))) + a3)]) rfl rfl ?_
              refine wp_s (i := .goto 13) (n := 3) (pc' := 167) (st' := [dz_I ((Z3 114 0 (dz_c ((a1 + 86) + a2))) + a3)]) rfl rfl ?_
              replace H := dz_sm H
              exact H
      · replace H := dz_if c10 H
        refine wp_s (i := .aload_n 0) (n := 1) (pc' := 74) (st' := [.ref 114]) rfl rfl ?_
        refine wq_gr (idx := 7) (a := 115) (pc' := 77) rfl rfl ho_M rfl rfl ?_
        refine wp_s (i := .iload_n 1) (n := 1) (pc' := 78) (st' := [dz_I a1, .ref 115]) rfl rfl ?_
        refine wp_s (i := .bipush 94) (n := 2) (pc' := 80) (st' := [dz_I 94, dz_I a1, .ref 115]) rfl rfl ?_
        refine wq_2 (i := .iadd) (z := a1 + 94) (pc' := 81) rfl rfl (op_add _ _) rfl ?_
        refine wp_s (i := .iload_n 2) (n := 1) (pc' := 82) (st' := [dz_I a2, dz_I (a1 + 94), .ref 115]) rfl rfl ?_
        refine wq_2 (i := .iadd) (z := (a1 + 94) + a2) (pc' := 83) rfl rfl (op_add _ _) rfl ?_
        obtain ⟨k34, H⟩ := dz_ck H
        refine wq_ia (j' := dz_c ((a1 + 94) + a2)) (pc' := 84) rfl ha_M_0 rfl k34.1 k34.2 rfl ?_
        refine wp_s (i := .iload_n 3) (n := 1) (pc' := 85) (st' := [dz_I a3, dz_I (Z3 114 0 (dz_c ((a1 + 94) + a2)))]) rfl rfl ?_
        refine wq_2 (i := .iadd) (z := (Z3 114 0 (dz_c ((a1 + 94) + a2))) + a3) (pc' := 86) rfl rfl (op_add _ _) rfl ?_
        refine wq_st (k := 6) (i := .istore 6) (n := 2) (ls' := [some (.ref 114), some (dz_I a1), some (dz_I a2), some (dz_I a3), some (dz_I (Z 114 0 (dz_c (10 + a2)))), some (dz_I (Z 114 0 (dz_c (18 + a2)))), some (dz_I ((Z3 114 0 (dz_c ((a1 + 94) + a2))) + a3)), none]) (pc' := 88) rfl rfl rfl rfl rfl ?_
        refine wp_s (i := .aload_n 0) (n := 1) (pc' := 89) (st' := [.ref 114]) rfl rfl ?_
        refine wq_gr (idx := 7) (a := 115) (pc' := 92) rfl rfl ho_M rfl rfl ?_
        refine wp_s (i := .iload_n 1) (n := 1) (pc' := 93) (st' := [dz_I a1, .ref 115]) rfl rfl ?_
        refine wp_s (i := .sipush 136) (n := 3) (pc' := 96) (st' := [dz_I 136, dz_I a1, .ref 115]) rfl rfl ?_
        refine wq_2 (i := .iadd) (z := a1 + 136) (pc' := 97) rfl rfl (op_add _ _) rfl ?_
        refine wp_s (i := .dup2) (n := 1) (pc' := 98) (st' := [dz_I (a1 + 136), .ref 115, dz_I (a1 + 136), .ref 115]) rfl rfl ?_
        obtain ⟨k35, H⟩ := dz_ck H
        refine wq_ia (j' := dz_c (a1 + 136)) (pc' := 99) rfl ha_M_0 rfl k35.1 k35.2 rfl ?_
        refine wp_s (i := .iload_n 3) (n := 1) (pc' := 100) (st' := [dz_I a3, dz_I (Z3 114 0 (dz_c (a1 + 136))), dz_I (a1 + 136), .ref 115]) rfl rfl ?_
        refine wq_2 (i := .iadd) (z := (Z3 114 0 (dz_c (a1 + 136))) + a3) (pc' := 101) rfl rfl (op_add _ _) rfl ?_
        refine wq_is (j' := dz_c (a1 + 136)) (x := (Z3 114 0 (dz_c (a1 + 136))) + a3) (pc' := 102) rfl ha_M_0 rfl k35.1 k35.2 rfl (fun Z36 eZ36 => ?_)
        replace H := dz_le H Z36 eZ36
        clear eZ36
        refine wp_s (i := .aload_n 0) (n := 1) (pc' := 103) (st' := [.ref 114]) rfl rfl ?_
        refine wq_gr (idx := 7) (a := 115) (pc' := 106) rfl rfl ho_M rfl rfl ?_
        refine wp_s (i := .iload_n 1) (n := 1) (pc' := 107) (st' := [dz_I a1, .ref 115]) rfl rfl ?_
        refine wp_s (i := .bipush 94) (n := 2) (pc' := 109) (st' := [dz_I 94, dz_I a1, .ref 115]) rfl rfl ?_
        refine wq_2 (i := .iadd) (z := a1 + 94) (pc' := 110) rfl rfl (op_add _ _) rfl ?_
        refine wp_s (i := .iload_n 2) (n := 1) (pc' := 111) (st' := [dz_I a2, dz_I (a1 + 94), .ref 115]) rfl rfl ?_
        refine wq_2 (i := .iadd) (z := (a1 + 94) + a2) (pc' := 112) rfl rfl (op_add _ _) rfl ?_
        refine wp_s (i := .iload 6) (n := 2) (pc' := 114) (st' := [dz_I ((Z3 114 0 (dz_c ((a1 + 94) + a2))) + a3), dz_I ((a1 + 94) + a2), .ref 115]) rfl rfl ?_
        refine wp_s (i := .iload 5) (n := 2) (pc' := 116) (st' := [dz_I (Z 114 0 (dz_c (18 + a2))), dz_I ((Z3 114 0 (dz_c ((a1 + 94) + a2))) + a3), dz_I ((a1 + 94) + a2), .ref 115]) rfl rfl ?_
        obtain ⟨k37, H⟩ := dz_ck H
        refine wq_2 (i := .irem) (z := Int.tmod (dz_c ((Z3 114 0 (dz_c ((a1 + 94) + a2))) + a3)) (dz_c (Z 114 0 (dz_c (18 + a2))))) (pc' := 117) rfl rfl (op_rem rfl rfl k37) rfl ?_
        refine wq_is (j' := dz_c ((a1 + 94) + a2)) (x := Int.tmod (dz_c ((Z3 114 0 (dz_c ((a1 + 94) + a2))) + a3)) (dz_c (Z 114 0 (dz_c (18 + a2))))) (pc' := 118) rfl ha_M_0 rfl k34.1 k34.2 rfl (fun Z38 eZ38 => ?_)
        replace H := dz_le H Z38 eZ38
        clear eZ38
        refine wp_s (i := .iload 6) (n := 2) (pc' := 120) (st' := [dz_I ((Z3 114 0 (dz_c ((a1 + 94) + a2))) + a3)]) rfl rfl ?_
        refine wp_s (i := .iload 5) (n := 2) (pc' := 122) (st' := [dz_I (Z 114 0 (dz_c (18 + a2))), dz_I ((Z3 114 0 (dz_c ((a1 + 94) + a2))) + a3)]) rfl rfl ?_
        refine wq_2 (i := .idiv) (z := Int.tdiv (dz_c ((Z3 114 0 (dz_c ((a1 + 94) + a2))) + a3)) (dz_c (Z 114 0 (dz_c (18 + a2))))) (pc' := 123) rfl rfl (op_div rfl rfl k37) rfl ?_
        refine wq_ri rfl rfl ?_
        replace H := dz_sm H
        exact H
    · replace H := dz_if c9 H
      refine wp_s (i := .aload_n 0) (n := 1) (pc' := 39) (st' := [.ref 114]) rfl rfl ?_
      refine wq_gr (idx := 7) (a := 115) (pc' := 42) rfl rfl ho_M rfl rfl ?_
      refine wp_s (i := .iload_n 1) (n := 1) (pc' := 43) (st' := [dz_I a1, .ref 115]) rfl rfl ?_
      refine wp_s (i := .sipush 136) (n := 3) (pc' := 46) (st' := [dz_I 136, dz_I a1, .ref 115]) rfl rfl ?_
      refine wq_2 (i := .iadd) (z := a1 + 136) (pc' := 47) rfl rfl (op_add _ _) rfl ?_
      refine wp_s (i := .dup2) (n := 1) (pc' := 48) (st' := [dz_I (a1 + 136), .ref 115, dz_I (a1 + 136), .ref 115]) rfl rfl ?_
      obtain ⟨k39, H⟩ := dz_ck H
      refine wq_ia (j' := dz_c (a1 + 136)) (pc' := 49) rfl ha_M_0 rfl k39.1 k39.2 rfl ?_
      refine wp_s (i := .iload_n 3) (n := 1) (pc' := 50) (st' := [dz_I a3, dz_I (Z3 114 0 (dz_c (a1 + 136))), dz_I (a1 + 136), .ref 115]) rfl rfl ?_
      refine wq_2 (i := .iadd) (z := (Z3 114 0 (dz_c (a1 + 136))) + a3) (pc' := 51) rfl rfl (op_add _ _) rfl ?_
      refine wq_is (j' := dz_c (a1 + 136)) (x := (Z3 114 0 (dz_c (a1 + 136))) + a3) (pc' := 52) rfl ha_M_0 rfl k39.1 k39.2 rfl (fun Z40 eZ40 => ?_)
      replace H := dz_le H Z40 eZ40
      clear eZ40
      refine wp_s (i := .iload 4) (n := 2) (pc' := 54) (st' := [dz_I (Z 114 0 (dz_c (10 + a2)))]) rfl rfl ?_
      refine wq_if (p := dz_c (Z 114 0 (dz_c (10 + a2))) ≠ 0) (tt := 65) (pc' := 57) rfl rfl (cz_ne rfl) rfl (fun c41 => ?_) (fun c41 => ?_)
      · replace H := dz_it c41 H
        refine wp_s (i := .iconst 0) (n := 1) (pc' := 66) (st' := [dz_I 0]) rfl rfl ?_
        refine wq_ri rfl rfl ?_
        replace H := dz_sm H
        exact H
      · replace H := dz_if c41 H
        refine wp_s (i := .iload_n 3) (n := 1) (pc' := 58) (st' := [dz_I a3]) rfl rfl ?_
        refine wq_if (p := dz_c a3 ≤ 0) (tt := 65) (pc' := 61) rfl rfl (cz_le rfl) rfl (fun c42 => ?_) (fun c42 => ?_)
        · replace H := dz_it c42 H
          refine wp_s (i := .iconst 0) (n := 1) (pc' := 66) (st' := [dz_I 0]) rfl rfl ?_
          refine wq_ri rfl rfl ?_
          replace H := dz_sm H
          exact H
        · replace H := dz_if c42 H
          refine wp_s (i := .iconst 1) (n := 1) (pc' := 62) (st' := [dz_I 1]) rfl rfl ?_
          refine wp_s (i := .goto 4) (n := 3) (pc' := 66) (st' := [dz_I 1]) rfl rfl ?_
          refine wq_ri rfl rfl ?_
          replace H := dz_sm H
          exact H
-- 153
def jf_M_second (a1 : Int) (a2 : Int) (Z : dz_Z) : Option (Int × dz_Z) := Option.bind (jf_M_gutters a1 a2 Z) fun q1 => dz_lp (fun (s2 : Int × dz_Z) => if dz_c (s2.2 114 3 0) ≤ dz_c s2.1 then (dz_lp (fun (s4 : Int × Int × dz_Z) => if dz_c (s4.2.2 114 3 0) ≤ dz_c s4.2.1 then (dz_lp (fun (s7 : Int × dz_Z) => if dz_c (s7.2 114 3 0) ≤ dz_c s7.1 then (if 0 ≤ dz_c (a1 + 134) ∧ dz_c (a1 + 134) < 700 then dz_a (dz_u s7.2 114 0 (dz_c (a1 + 134)) ((s7.2 114 0 (dz_c (a1 + 134))) + 1)) fun Z10 => some (Sum.inr (Sum.inr (Sum.inr (s4.1, Z10)))) else none) else (if dz_c (s7.2 114 6 0) ≤ 0 then (some (Sum.inl (s7.1 + 1, s7.2))) else (if 0 ≤ dz_c ((a1 + 102) + s7.1) ∧ dz_c ((a1 + 102) + s7.1) < 700 then if dz_c (s7.2 114 0 (dz_c ((a1 + 102) + s7.1))) < dz_c (s7.2 114 6 0) then (some (Sum.inl (s7.1 + 1, s7.2))) else (if 0 ≤ dz_c ((a1 + 118) + s7.1) ∧ dz_c ((a1 + 118) + s7.1) < 700 then dz_a (dz_u s7.2 114 0 (dz_c ((a1 + 118) + s7.1)) 1) fun Z15 => some (Sum.inl (s7.1 + 1, Z15)) else none) else none))) 5000 (0, s4.2.2)) else (if 0 ≤ dz_c ((a1 + 102) + s4.2.1) ∧ dz_c ((a1 + 102) + s4.2.1) < 700 then if 0 ≤ dz_c s4.2.1 ∧ dz_c s4.2.1 < 8 then dz_a (dz_u s4.2.2 114 0 (dz_c ((a1 + 102) + s4.2.1)) ((s4.2.2 114 0 (dz_c ((a1 + 102) + s4.2.1))) + (s4.2.2 114 33 (dz_c s4.2.1)))) fun Z18 => Option.bind (jf_M_sounds a1 s4.2.1 (Z18 114 33 (dz_c s4.2.1)) Z18) fun q19 => Option.bind (α := dz_Z) (if dz_c (q19.2 114 34 0) ≤ 0 then (some q19.2) else (if 0 ≤ dz_c (26 + s4.2.1) ∧ dz_c (26 + s4.2.1) < 700 then if 0 ≤ dz_c ((a1 + 110) + (q19.2 114 0 (dz_c (26 + s4.2.1)))) ∧ dz_c ((a1 + 110) + (q19.2 114 0 (dz_c (26 + s4.2.1)))) < 700 then dz_a (dz_u q19.2 114 0 (dz_c ((a1 + 110) + (q19.2 114 0 (dz_c (26 + s4.2.1))))) ((q19.2 114 0 (dz_c ((a1 + 110) + (q19.2 114 0 (dz_c (26 + s4.2.1)))))) + (q19.2 114 34 0))) fun Z39 => some Z39 else none else none)) (fun (q24 : dz_Z) => if 0 ≤ dz_c ((a1 + 118) + s4.2.1) ∧ dz_c ((a1 + 118) + s4.2.1) < 700 then Option.bind (α := Int) (if dz_c (q24 114 0 (dz_c ((a1 + 118) + s4.2.1))) ≠ 1 then (some q19.1) else (some 0)) (fun (q27 : Int) => if 0 ≤ dz_c ((a1 + 126) + s4.2.1) ∧ dz_c ((a1 + 126) + s4.2.1) < 700 then dz_a (dz_u q24 114 0 (dz_c ((a1 + 126) + s4.2.1)) q27) fun Z29 => if 0 ≤ dz_c (a1 + 137) ∧ dz_c (a1 + 137) < 700 then dz_a (dz_u Z29 114 0 (dz_c (a1 + 137)) ((Z29 114 0 (dz_c (a1 + 137))) + q27)) fun Z31 => Option.bind (α := Int) (if dz_c q27 ≤ 0 then (some 0) else (some (dz_sl 1 (Z31 114 9 (dz_c s4.2.1))))) (fun (q33 : Int) => some (Sum.inl (dz_or s4.1 q33, s4.2.1 + 1, Z31))) else none else none) else none) else none else none)) 5000 (0, 0, s2.2)) else (if 0 ≤ dz_c s2.1 ∧ dz_c s2.1 < 8 then if 0 ≤ dz_c ((a1 + 110) + s2.1) ∧ dz_c ((a1 + 110) + s2.1) < 700 then dz_a (dz_u s2.2 114 33 (dz_c s2.1) ((s2.2 114 33 (dz_c s2.1)) + (s2.2 114 0 (dz_c ((a1 + 110) + s2.1))))) fun Z42 => dz_a (dz_u Z42 114 0 (dz_c ((a1 + 110) + s2.1)) 0) fun Z43 => some (Sum.inl (s2.1 + 1, Z43)) else none else none)) 5000 (0, q1)
set_option maxRecDepth 20000 in
theorem jw_M_second {X : Option (List Int32)} {D : Nat} {Q : Option Value → mm_H → Prop} (a1 : Int) (a2 : Int) (Z : dz_Z) (H : dz_p (jf_M_second a1 a2 Z) (fun q => Q (some (dz_I q.1)) (hz_0 q.2))) : mm_Wp X (D + 2) mm_r153 0 [some (.ref 114), some (dz_I a1), some (dz_I a2), none, none, none] [] (hz_0 Z) Q := by
  unfold jf_M_second at H
  refine wp_s (i := .aload_n 0) (n := 1) (pc' := 1) (st' := [.ref 114]) rfl rfl ?_
  refine wp_s (i := .iload_n 1) (n := 1) (pc' := 2) (st' := [dz_I a1, .ref 114]) rfl rfl ?_
  refine wp_s (i := .iload_n 2) (n := 1) (pc' := 3) (st' := [dz_I a2, dz_I a1, .ref 114]) rfl rfl ?_
  refine wq_cv (Dq := (D + 1)) (r' := mm_r151) (as0 := [dz_I a1, dz_I a2]) (rest := []) (ls' := [some (.ref 114), some (dz_I a1), some (dz_I a2), none, none, none, none]) (pc' := 6) rfl rfl rfl rfl ho_M rfl rfl rfl ?_
  refine jw_M_gutters (X := X) (D := D + 0) a1 a2 Z (dz_pm (dz_bi H) (fun q1 H => ?_))
  show mm_Wp X (D + 2) mm_r153 6 [some (.ref 114), some (dz_I a1), some (dz_I a2), none, none, none] [] (hz_0 q1) Q
  refine wp_s (i := .iconst 0) (n := 1) (pc' := 7) (st' := [dz_I 0]) rfl rfl ?_
  refine wq_st (k := 3) (i := .istore_n 3) (n := 1) (ls' := [some (.ref 114), some (dz_I a1), some (dz_I a2), some (dz_I 0), none, none]) (pc' := 8) rfl rfl rfl rfl rfl ?_
  refine wp_s (i := .iconst 0) (n := 1) (pc' := 9) (st' := [dz_I 0]) rfl rfl ?_
  refine wq_st (k := 4) (i := .istore 4) (n := 2) (ls' := [some (.ref 114), some (dz_I a1), some (dz_I a2), some (dz_I 0), some (dz_I 0), none]) (pc' := 11) rfl rfl rfl rfl rfl ?_
  refine dz_lpi (P := fun (s2 : Int × dz_Z) => mm_Wp X (D + 2) mm_r153 11 [some (.ref 114), some (dz_I a1), some (dz_I a2), some (dz_I 0), some (dz_I s2.1), none] [] (hz_0 s2.2) Q) (fun s2 H => ?_) 5000 (0, q1) H
  refine wp_s (i := .iload 4) (n := 2) (pc' := 13) (st' := [dz_I s2.1]) rfl rfl ?_
  refine wp_s (i := .aload_n 0) (n := 1) (pc' := 14) (st' := [.ref 114, dz_I s2.1]) rfl rfl ?_
  refine wq_gi (idx := 170) (pc' := 17) rfl rfl ho_M rfl rfl ?_
  refine wq_ic (p := dz_c (s2.2 114 3 0) ≤ dz_c s2.1) (tt := 61) (pc' := 20) rfl rfl (cq_ge rfl rfl) rfl (fun c3 => ?_) (fun c3 => ?_)
  · replace H := dz_it c3 H
    refine wp_s (i := .iconst 0) (n := 1) (pc' := 62) (st' := [dz_I 0]) rfl rfl ?_
    refine wq_st (k := 4) (i := .istore 4) (n := 2) (ls' := [some (.ref 114), some (dz_I a1), some (dz_I a2), some (dz_I 0), some (dz_I 0), none]) (pc' := 64) rfl rfl rfl rfl rfl ?_
    refine dz_lpi (P := fun (s4 : Int × Int × dz_Z) => ∀ (u5 : Option Int32), mm_Wp X (D + 2) mm_r153 64 [some (.ref 114), some (dz_I a1), some (dz_I a2), some (dz_I s4.1), some (dz_I s4.2.1), Option.map Value.int u5] [] (hz_0 s4.2.2) Q) (fun s4 H => ?_) 5000 (0, 0, s2.2) H none
    intro u5
    refine wp_s (i := .iload 4) (n := 2) (pc' := 66) (st' := [dz_I s4.2.1]) rfl rfl ?_
    refine wp_s (i := .aload_n 0) (n := 1) (pc' := 67) (st' := [.ref 114, dz_I s4.2.1]) rfl rfl ?_
    refine wq_gi (idx := 170) (pc' := 70) rfl rfl ho_M rfl rfl ?_
    refine wq_ic (p := dz_c (s4.2.2 114 3 0) ≤ dz_c s4.2.1) (tt := 225) (pc' := 73) rfl rfl (cq_ge rfl rfl) rfl (fun c6 => ?_) (fun c6 => ?_)
    · replace H := dz_it c6 H
      refine wp_s (i := .iconst 0) (n := 1) (pc' := 226) (st' := [dz_I 0]) rfl rfl ?_
      refine wq_st (k := 4) (i := .istore 4) (n := 2) (ls' := [some (.ref 114), some (dz_I a1), some (dz_I a2), some (dz_I s4.1), some (dz_I 0), Option.map Value.int u5]) (pc' := 228) rfl rfl rfl rfl rfl ?_
      refine dz_lpi (P := fun (s7 : Int × dz_Z) => mm_Wp X (D + 2) mm_r153 228 [some (.ref 114), some (dz_I a1), some (dz_I a2), some (dz_I s4.1), some (dz_I s7.1), Option.map Value.int u5] [] (hz_0 s7.2) Q) (fun s7 H => ?_) 5000 (0, s4.2.2) H
      refine wp_s (i := .iload 4) (n := 2) (pc' := 230) (st' := [dz_I s7.1]) rfl rfl ?_
      refine wp_s (i := .aload_n 0) (n := 1) (pc' := 231) (st' := [.ref 114, dz_I s7.1]) rfl rfl ?_
      refine wq_gi (idx := 170) (pc' := 234) rfl rfl ho_M rfl rfl ?_
      refine wq_ic (p := dz_c (s7.2 114 3 0) ≤ dz_c s7.1) (tt := 282) (pc' := 237) rfl rfl (cq_ge rfl rfl) rfl (fun c8 => ?_) (fun c8 => ?_)
      · replace H := dz_it c8 H
        refine wp_s (i := .aload_n 0) (n := 1) (pc' := 283) (st' := [.ref 114]) rfl rfl ?_
        refine wq_gr (idx := 7) (a := 115) (pc' := 286) rfl rfl ho_M rfl rfl ?_
        refine wp_s (i := .iload_n 1) (n := 1) (pc' := 287) (st' := [dz_I a1, .ref 115]) rfl rfl ?_
        refine wp_s (i := .sipush 134) (n := 3) (pc' := 290) (st' := [dz_I 134, dz_I a1, .ref 115]) rfl rfl ?_
        refine wq_2 (i := .iadd) (z := a1 + 134) (pc' := 291) rfl rfl (op_add _ _) rfl ?_
        refine wp_s (i := .dup2) (n := 1) (pc' := 292) (st' := [dz_I (a1 + 134), .ref 115, dz_I (a1 + 134), .ref 115]) rfl rfl ?_
        obtain ⟨k9, H⟩ := dz_ck H
        refine wq_ia (j' := dz_c (a1 + 134)) (pc' := 293) rfl ha_M_0 rfl k9.1 k9.2 rfl ?_
        refine wp_s (i := .iconst 1) (n := 1) (pc' := 294) (st' := [dz_I 1, dz_I (s7.2 114 0 (dz_c (a1 + 134))), dz_I (a1 + 134), .ref 115]) rfl rfl ?_
        refine wq_2 (i := .iadd) (z := (s7.2 114 0 (dz_c (a1 + 134))) + 1) (pc' := 295) rfl rfl (op_add _ _) rfl ?_
        refine wq_is (j' := dz_c (a1 + 134)) (x := (s7.2 114 0 (dz_c (a1 + 134))) + 1) (pc' := 296) rfl ha_M_0 rfl k9.1 k9.2 rfl (fun Z10 eZ10 => ?_)
        replace H := dz_le H Z10 eZ10
        clear eZ10
        refine wp_s (i := .iload_n 3) (n := 1) (pc' := 297) (st' := [dz_I s4.1]) rfl rfl ?_
        refine wq_ri rfl rfl ?_
        replace H := dz_out H
        replace H := dz_out H
        replace H := dz_out H
        replace H := dz_sm H
        exact H
      · replace H := dz_if c8 H
        refine wp_s (i := .aload_n 0) (n := 1) (pc' := 238) (st' := [.ref 114]) rfl rfl ?_
        refine wq_gi (idx := 179) (pc' := 241) rfl rfl ho_M rfl rfl ?_
        refine wq_if (p := dz_c (s7.2 114 6 0) ≤ 0) (tt := 276) (pc' := 244) rfl rfl (cz_le rfl) rfl (fun c11 => ?_) (fun c11 => ?_)
        · replace H := dz_it c11 H
          refine wq_inc (k := 4) (d := 1) (x := s7.1) (ls' := [some (.ref 114), some (dz_I a1), some (dz_I a2), some (dz_I s4.1), some (dz_I (s7.1 + 1)), Option.map Value.int u5]) (pc' := 279) rfl rfl rfl rfl ?_
          refine wp_s (i := .goto (-51)) (n := 3) (pc' := 228) (st' := []) rfl rfl ?_
          replace H := dz_back H
          exact H
        · replace H := dz_if c11 H
          refine wp_s (i := .aload_n 0) (n := 1) (pc' := 245) (st' := [.ref 114]) rfl rfl ?_
          refine wq_gr (idx := 7) (a := 115) (pc' := 248) rfl rfl ho_M rfl rfl ?_
          refine wp_s (i := .iload_n 1) (n := 1) (pc' := 249) (st' := [dz_I a1, .ref 115]) rfl rfl ?_
          refine wp_s (i := .bipush 102) (n := 2) (pc' := 251) (st' := [dz_I 102, dz_I a1, .ref 115]) rfl rfl ?_
          refine wq_2 (i := .iadd) (z := a1 + 102) (pc' := 252) rfl rfl (op_add _ _) rfl ?_
          refine wp_s (i := .iload 4) (n := 2) (pc' := 254) (st' := [dz_I s7.1, dz_I (a1 + 102), .ref 115]) rfl rfl ?_
          refine wq_2 (i := .iadd) (z := (a1 + 102) + s7.1) (pc' := 255) rfl rfl (op_add _ _) rfl ?_
          obtain ⟨k12, H⟩ := dz_ck H
          refine wq_ia (j' := dz_c ((a1 + 102) + s7.1)) (pc' := 256) rfl ha_M_0 rfl k12.1 k12.2 rfl ?_
          refine wp_s (i := .aload_n 0) (n := 1) (pc' := 257) (st' := [.ref 114, dz_I (s7.2 114 0 (dz_c ((a1 + 102) + s7.1)))]) rfl rfl ?_
          refine wq_gi (idx := 179) (pc' := 260) rfl rfl ho_M rfl rfl ?_
          refine wq_ic (p := dz_c (s7.2 114 0 (dz_c ((a1 + 102) + s7.1))) < dz_c (s7.2 114 6 0)) (tt := 276) (pc' := 263) rfl rfl (cq_lt rfl rfl) rfl (fun c13 => ?_) (fun c13 => ?_)
          · replace H := dz_it c13 H
            refine wq_inc (k := 4) (d := 1) (x := s7.1) (ls' := [some (.ref 114), some (dz_I a1), some (dz_I a2), some (dz_I s4.1), some (dz_I (s7.1 + 1)), Option.map Value.int u5]) (pc' := 279) rfl rfl rfl rfl ?_
            refine wp_s (i := .goto (-51)) (n := 3) (pc' := 228) (st' := []) rfl rfl ?_
            replace H := dz_back H
            exact H
          · replace H := dz_if c13 H
            refine wp_s (i := .aload_n 0) (n := 1) (pc' := 264) (st' := [.ref 114]) rfl rfl ?_
            refine wq_gr (idx := 7) (a := 115) (pc' := 267) rfl rfl ho_M rfl rfl ?_
            refine wp_s (i := .iload_n 1) (n := 1) (pc' := 268) (st' := [dz_I a1, .ref 115]) rfl rfl ?_
            refine wp_s (i := .bipush 118) (n := 2) (pc' := 270) (st' := [dz_I 118, dz_I a1, .ref 115]) rfl rfl ?_
            refine wq_2 (i := .iadd) (z := a1 + 118) (pc' := 271) rfl rfl (op_add _ _) rfl ?_
            refine wp_s (i := .iload 4) (n := 2) (pc' := 273) (st' := [dz_I s7.1, dz_I (a1 + 118), .ref 115]) rfl rfl ?_
            refine wq_2 (i := .iadd) (z := (a1 + 118) + s7.1) (pc' := 274) rfl rfl (op_add _ _) rfl ?_
            refine wp_s (i := .iconst 1) (n := 1) (pc' := 275) (st' := [dz_I 1, dz_I ((a1 + 118) + s7.1), .ref 115]) rfl rfl ?_
            obtain ⟨k14, H⟩ := dz_ck H
            refine wq_is (j' := dz_c ((a1 + 118) + s7.1)) (x := 1) (pc' := 276) rfl ha_M_0 rfl k14.1 k14.2 rfl (fun Z15 eZ15 => ?_)
            replace H := dz_le H Z15 eZ15
            clear eZ15
            refine wq_inc (k := 4) (d := 1) (x := s7.1) (ls' := [some (.ref 114), some (dz_I a1), some (dz_I a2), some (dz_I s4.1), some (dz_I (s7.1 + 1)), Option.map Value.int u5]) (pc' := 279) rfl rfl rfl rfl ?_
            refine wp_s (i := .goto (-51)) (n := 3) (pc' := 228) (st' := []) rfl rfl ?_
            replace H := dz_back H
            exact H
    · replace H := dz_if c6 H
      refine wp_s (i := .aload_n 0) (n := 1) (pc' := 74) (st' := [.ref 114]) rfl rfl ?_
      refine wq_gr (idx := 7) (a := 115) (pc' := 77) rfl rfl ho_M rfl rfl ?_
      refine wp_s (i := .iload_n 1) (n := 1) (pc' := 78) (st' := [dz_I a1, .ref 115]) rfl rfl ?_
      refine wp_s (i := .bipush 102) (n := 2) (pc' := 80) (st' := [dz_I 102, dz_I a1, .ref 115]) rfl rfl ?_
      refine wq_2 (i := .iadd) (z := a1 + 102) (pc' := 81) rfl rfl (op_add _ _) rfl ?_
      refine wp_s (i := .iload 4) (n := 2) (pc' := 83) (st' := [dz_I s4.2.1, dz_I (a1 + 102), .ref 115]) rfl rfl ?_
      refine wq_2 (i := .iadd) (z := (a1 + 102) + s4.2.1) (pc' := 84) rfl rfl (op_add _ _) rfl ?_
      refine wp_s (i := .dup2) (n := 1) (pc' := 85) (st' := [dz_I ((a1 + 102) + s4.2.1), .ref 115, dz_I ((a1 + 102) + s4.2.1), .ref 115]) rfl rfl ?_
      obtain ⟨k16, H⟩ := dz_ck H
      refine wq_ia (j' := dz_c ((a1 + 102) + s4.2.1)) (pc' := 86) rfl ha_M_0 rfl k16.1 k16.2 rfl ?_
      refine wp_s (i := .aload_n 0) (n := 1) (pc' := 87) (st' := [.ref 114, dz_I (s4.2.2 114 0 (dz_c ((a1 + 102) + s4.2.1))), dz_I ((a1 + 102) + s4.2.1), .ref 115]) rfl rfl ?_
      refine wq_gr (idx := 55) (a := 130) (pc' := 90) rfl rfl ho_M rfl rfl ?_
      refine wp_s (i := .iload 4) (n := 2) (pc' := 92) (st' := [dz_I s4.2.1, .ref 130, dz_I (s4.2.2 114 0 (dz_c ((a1 + 102) + s4.2.1))), dz_I ((a1 + 102) + s4.2.1), .ref 115]) rfl rfl ?_
      obtain ⟨k17, H⟩ := dz_ck H
      refine wq_ia (j' := dz_c s4.2.1) (pc' := 93) rfl ha_M_33 rfl k17.1 k17.2 rfl ?_
      refine wq_2 (i := .iadd) (z := (s4.2.2 114 0 (dz_c ((a1 + 102) + s4.2.1))) + (s4.2.2 114 33 (dz_c s4.2.1))) (pc' := 94) rfl rfl (op_add _ _) rfl ?_
      refine wq_is (j' := dz_c ((a1 + 102) + s4.2.1)) (x := (s4.2.2 114 0 (dz_c ((a1 + 102) + s4.2.1))) + (s4.2.2 114 33 (dz_c s4.2.1))) (pc' := 95) rfl ha_M_0 rfl k16.1 k16.2 rfl (fun Z18 eZ18 => ?_)
      replace H := dz_le H Z18 eZ18
      clear eZ18
      refine wp_s (i := .aload_n 0) (n := 1) (pc' := 96) (st' := [.ref 114]) rfl rfl ?_
      refine wp_s (i := .iload_n 1) (n := 1) (pc' := 97) (st' := [dz_I a1, .ref 114]) rfl rfl ?_
      refine wp_s (i := .iload 4) (n := 2) (pc' := 99) (st' := [dz_I s4.2.1, dz_I a1, .ref 114]) rfl rfl ?_
      refine wp_s (i := .aload_n 0) (n := 1) (pc' := 100) (st' := [.ref 114, dz_I s4.2.1, dz_I a1, .ref 114]) rfl rfl ?_
      refine wq_gr (idx := 55) (a := 130) (pc' := 103) rfl rfl ho_M rfl rfl ?_
      refine wp_s (i := .iload 4) (n := 2) (pc' := 105) (st' := [dz_I s4.2.1, .ref 130, dz_I s4.2.1, dz_I a1, .ref 114]) rfl rfl ?_
      refine wq_ia (j' := dz_c s4.2.1) (pc' := 106) rfl ha_M_33 rfl k17.1 k17.2 rfl ?_
      refine wq_cv (Dq := (D + 1)) (r' := mm_r152) (as0 := [dz_I a1, dz_I s4.2.1, dz_I (Z18 114 33 (dz_c s4.2.1))]) (rest := []) (ls' := [some (.ref 114), some (dz_I a1), some (dz_I s4.2.1), some (dz_I (Z18 114 33 (dz_c s4.2.1))), none, none, none, none]) (pc' := 109) rfl rfl rfl rfl ho_M rfl rfl rfl ?_
      refine jw_M_sounds (X := X) (D := D + 1) a1 s4.2.1 (Z18 114 33 (dz_c s4.2.1)) Z18 (dz_pm (dz_bi H) (fun q19 H => ?_))
      show mm_Wp X (D + 2) mm_r153 109 [some (.ref 114), some (dz_I a1), some (dz_I a2), some (dz_I s4.1), some (dz_I s4.2.1), Option.map Value.int u5] [dz_I q19.1] (hz_0 q19.2) Q
      refine wq_st (k := 5) (i := .istore 5) (n := 2) (ls' := [some (.ref 114), some (dz_I a1), some (dz_I a2), some (dz_I s4.1), some (dz_I s4.2.1), some (dz_I q19.1)]) (pc' := 111) rfl rfl rfl rfl rfl ?_
      refine wp_s (i := .aload_n 0) (n := 1) (pc' := 112) (st' := [.ref 114]) rfl rfl ?_
      refine wq_gi (idx := 213) (pc' := 115) rfl rfl ho_M rfl rfl ?_
      refine dz_jn (P := fun (q24 : dz_Z) => mm_Wp X (D + 2) mm_r153 145 [some (.ref 114), some (dz_I a1), some (dz_I a2), some (dz_I s4.1), some (dz_I s4.2.1), some (dz_I q19.1)] [] (hz_0 q24) Q) (dz_bi H) (fun q24 H => ?_) (fun H => ?_)
      · skip
        refine wp_s (i := .aload_n 0) (n := 1) (pc' := 146) (st' := [.ref 114]) rfl rfl ?_
        refine wq_gr (idx := 7) (a := 115) (pc' := 149) rfl rfl ho_M rfl rfl ?_
        refine wp_s (i := .iload_n 1) (n := 1) (pc' := 150) (st' := [dz_I a1, .ref 115]) rfl rfl ?_
        refine wp_s (i := .bipush 118) (n := 2) (pc' := 152) (st' := [dz_I 118, dz_I a1, .ref 115]) rfl rfl ?_
        refine wq_2 (i := .iadd) (z := a1 + 118) (pc' := 153) rfl rfl (op_add _ _) rfl ?_
        refine wp_s (i := .iload 4) (n := 2) (pc' := 155) (st' := [dz_I s4.2.1, dz_I (a1 + 118), .ref 115]) rfl rfl ?_
        refine wq_2 (i := .iadd) (z := (a1 + 118) + s4.2.1) (pc' := 156) rfl rfl (op_add _ _) rfl ?_
        obtain ⟨k25, H⟩ := dz_ck H
        refine wq_ia (j' := dz_c ((a1 + 118) + s4.2.1)) (pc' := 157) rfl ha_M_0 rfl k25.1 k25.2 rfl ?_
        refine wp_s (i := .iconst 1) (n := 1) (pc' := 158) (st' := [dz_I 1, dz_I (q24 114 0 (dz_c ((a1 + 118) + s4.2.1)))]) rfl rfl ?_
        refine dz_jn (P := fun (q27 : Int) => mm_Wp X (D + 2) mm_r153 167 [some (.ref 114), some (dz_I a1), some (dz_I a2), some (dz_I s4.1), some (dz_I s4.2.1), some (dz_I q19.1)] [dz_I q27] (hz_0 q24) Q) (dz_bi H) (fun q27 H => ?_) (fun H => ?_)
        · skip
          refine wq_st (k := 5) (i := .istore 5) (n := 2) (ls' := [some (.ref 114), some (dz_I a1), some (dz_I a2), some (dz_I s4.1), some (dz_I s4.2.1), some (dz_I q27)]) (pc' := 169) rfl rfl rfl rfl rfl ?_
          refine wp_s (i := .aload_n 0) (n := 1) (pc' := 170) (st' := [.ref 114]) rfl rfl ?_
          refine wq_gr (idx := 7) (a := 115) (pc' := 173) rfl rfl ho_M rfl rfl ?_
          refine wp_s (i := .iload_n 1) (n := 1) (pc' := 174) (st' := [dz_I a1, .ref 115]) rfl rfl ?_
          refine wp_s (i := .bipush 126) (n := 2) (pc' := 176) (st' := [dz_I 126, dz_I a1, .ref 115]) rfl rfl ?_
          refine wq_2 (i := .iadd) (z := a1 + 126) (pc' := 177) rfl rfl (op_add _ _) rfl ?_
          refine wp_s (i := .iload 4) (n := 2) (pc' := 179) (st' := [dz_I s4.2.1, dz_I (a1 + 126), .ref 115]) rfl rfl ?_
          refine wq_2 (i := .iadd) (z := (a1 + 126) + s4.2.1) (pc' := 180) rfl rfl (op_add _ _) rfl ?_
          refine wp_s (i := .iload 5) (n := 2) (pc' := 182) (st' := [dz_I q27, dz_I ((a1 + 126) + s4.2.1), .ref 115]) rfl rfl ?_
          obtain ⟨k28, H⟩ := dz_ck H
          refine wq_is (j' := dz_c ((a1 + 126) + s4.2.1)) (x := q27) (pc' := 183) rfl ha_M_0 rfl k28.1 k28.2 rfl (fun Z29 eZ29 => ?_)
          replace H := dz_le H Z29 eZ29
          clear eZ29
          refine wp_s (i := .aload_n 0) (n := 1) (pc' := 184) (st' := [.ref 114]) rfl rfl ?_
          refine wq_gr (idx := 7) (a := 115) (pc' := 187) rfl rfl ho_M rfl rfl ?_
          refine wp_s (i := .iload_n 1) (n := 1) (pc' := 188) (st' := [dz_I a1, .ref 115]) rfl rfl ?_
          refine wp_s (i := .sipush 137) (n := 3) (pc' := 191) (st' := [dz_I 137, dz_I a1, .ref 115]) rfl rfl ?_
          refine wq_2 (i := .iadd) (z := a1 + 137) (pc' := 192) rfl rfl (op_add _ _) rfl ?_
          refine wp_s (i := .dup2) (n := 1) (pc' := 193) (st' := [dz_I (a1 + 137), .ref 115, dz_I (a1 + 137), .ref 115]) rfl rfl ?_
          obtain ⟨k30, H⟩ := dz_ck H
          refine wq_ia (j' := dz_c (a1 + 137)) (pc' := 194) rfl ha_M_0 rfl k30.1 k30.2 rfl ?_
          refine wp_s (i := .iload 5) (n := 2) (pc' := 196) (st' := [dz_I q27, dz_I (Z29 114 0 (dz_c (a1 + 137))), dz_I (a1 + 137), .ref 115]) rfl rfl ?_
          refine wq_2 (i := .iadd) (z := (Z29 114 0 (dz_c (a1 + 137))) + q27) (pc' := 197) rfl rfl (op_add _ _) rfl ?_
          refine wq_is (j' := dz_c (a1 + 137)) (x := (Z29 114 0 (dz_c (a1 + 137))) + q27) (pc' := 198) rfl ha_M_0 rfl k30.1 k30.2 rfl (fun Z31 eZ31 => ?_)
          replace H := dz_le H Z31 eZ31
          clear eZ31
          refine wp_s (i := .iload_n 3) (n := 1) (pc' := 199) (st' := [dz_I s4.1]) rfl rfl ?_
          refine wp_s (i := .iload 5) (n := 2) (pc' := 201) (st' := [dz_I q27, dz_I s4.1]) rfl rfl ?_
          refine dz_jn (P := fun (q33 : Int) => mm_Wp X (D + 2) mm_r153 217 [some (.ref 114), some (dz_I a1), some (dz_I a2), some (dz_I s4.1), some (dz_I s4.2.1), some (dz_I q27)] [dz_I q33, dz_I s4.1] (hz_0 Z31) Q) (dz_bi H) (fun q33 H => ?_) (fun H => ?_)
          · skip
            refine wq_2 (i := .ior) (z := dz_or s4.1 q33) (pc' := 218) rfl rfl (op_or _ _) rfl ?_
            refine wq_st (k := 3) (i := .istore_n 3) (n := 1) (ls' := [some (.ref 114), some (dz_I a1), some (dz_I a2), some (dz_I (dz_or s4.1 q33)), some (dz_I s4.2.1), some (dz_I q27)]) (pc' := 219) rfl rfl rfl rfl rfl ?_
            refine wq_inc (k := 4) (d := 1) (x := s4.2.1) (ls' := [some (.ref 114), some (dz_I a1), some (dz_I a2), some (dz_I (dz_or s4.1 q33)), some (dz_I (s4.2.1 + 1)), some (dz_I q27)]) (pc' := 222) rfl rfl rfl rfl ?_
            refine wp_s (i := .goto (-158)) (n := 3) (pc' := 64) (st' := []) rfl rfl ?_
            replace H := dz_back H
            exact H (some (Int32.ofInt q27))
          · skip
            refine wq_if (p := dz_c q27 ≤ 0) (tt := 216) (pc' := 204) rfl rfl (cz_le rfl) rfl (fun c34 => ?_) (fun c34 => ?_)
            · replace H := dz_it c34 H
              refine wp_s (i := .iconst 0) (n := 1) (pc' := 217) (st' := [dz_I 0, dz_I s4.1]) rfl rfl ?_
              replace H := dz_sm H
              exact H
            · replace H := dz_if c34 H
              refine wp_s (i := .iconst 1) (n := 1) (pc' := 205) (st' := [dz_I 1, dz_I s4.1]) rfl rfl ?_
              refine wp_s (i := .aload_n 0) (n := 1) (pc' := 206) (st' := [.ref 114, dz_I 1, dz_I s4.1]) rfl rfl ?_
              refine wq_gr (idx := 19) (a := 118) (pc' := 209) rfl rfl ho_M rfl rfl ?_
              refine wp_s (i := .iload 4) (n := 2) (pc' := 211) (st' := [dz_I s4.2.1, .ref 118, dz_I 1, dz_I s4.1]) rfl rfl ?_
              refine wq_ia (j' := dz_c s4.2.1) (pc' := 212) rfl ha_M_9 rfl k17.1 k17.2 rfl ?_
              refine wq_2 (i := .ishl) (z := dz_sl 1 (Z31 114 9 (dz_c s4.2.1))) (pc' := 213) rfl rfl (op_shl _ _) rfl ?_
              refine wp_s (i := .goto 4) (n := 3) (pc' := 217) (st' := [dz_I (dz_sl 1 (Z31 114 9 (dz_c s4.2.1))), dz_I s4.1]) rfl rfl ?_
              replace H := dz_sm H
              exact H
        · skip
          refine wq_ic (p := dz_c (q24 114 0 (dz_c ((a1 + 118) + s4.2.1))) ≠ 1) (tt := 165) (pc' := 161) rfl rfl (cq_ne rfl dk_1) rfl (fun c35 => ?_) (fun c35 => ?_)
          · replace H := dz_it c35 H
            refine wp_s (i := .iload 5) (n := 2) (pc' := 167) (st' := [dz_I q19.1]) rfl rfl ?_
            replace H := dz_sm H
            exact H
          · replace H := dz_if c35 H
            refine wp_s (i := .iconst 0) (n := 1) (pc' := 162) (st' := [dz_I 0]) rfl rfl ?_
            refine wp_s (i := .goto 5) (n := 3) (pc' := 167) (st' := [dz_I 0]) rfl rfl ?_
            replace H := dz_sm H
            exact H
      · skip
        refine wq_if (p := dz_c (q19.2 114 34 0) ≤ 0) (tt := 145) (pc' := 118) rfl rfl (cz_le rfl) rfl (fun c36 => ?_) (fun c36 => ?_)
        · replace H := dz_it c36 H
          replace H := dz_sm H
          exact H
        · replace H := dz_if c36 H
          refine wp_s (i := .aload_n 0) (n := 1) (pc' := 119) (st' := [.ref 114]) rfl rfl ?_
          refine wq_gr (idx := 7) (a := 115) (pc' := 122) rfl rfl ho_M rfl rfl ?_
          refine wp_s (i := .iload_n 1) (n := 1) (pc' := 123) (st' := [dz_I a1, .ref 115]) rfl rfl ?_
          refine wp_s (i := .bipush 110) (n := 2) (pc' := 125) (st' := [dz_I 110, dz_I a1, .ref 115]) rfl rfl ?_
          refine wq_2 (i := .iadd) (z := a1 + 110) (pc' := 126) rfl rfl (op_add _ _) rfl ?_
          refine wp_s (i := .aload_n 0) (n := 1) (pc' := 127) (st' := [.ref 114, dz_I (a1 + 110), .ref 115]) rfl rfl ?_
          refine wq_gr (idx := 7) (a := 115) (pc' := 130) rfl rfl ho_M rfl rfl ?_
          refine wp_s (i := .bipush 26) (n := 2) (pc' := 132) (st' := [dz_I 26, .ref 115, dz_I (a1 + 110), .ref 115]) rfl rfl ?_
          refine wp_s (i := .iload 4) (n := 2) (pc' := 134) (st' := [dz_I s4.2.1, dz_I 26, .ref 115, dz_I (a1 + 110), .ref 115]) rfl rfl ?_
          refine wq_2 (i := .iadd) (z := 26 + s4.2.1) (pc' := 135) rfl rfl (op_add _ _) rfl ?_
          obtain ⟨k37, H⟩ := dz_ck H
          refine wq_ia (j' := dz_c (26 + s4.2.1)) (pc' := 136) rfl ha_M_0 rfl k37.1 k37.2 rfl ?_
          refine wq_2 (i := .iadd) (z := (a1 + 110) + (q19.2 114 0 (dz_c (26 + s4.2.1)))) (pc' := 137) rfl rfl (op_add _ _) rfl ?_
          refine wp_s (i := .dup2) (n := 1) (pc' := 138) (st' := [dz_I ((a1 + 110) + (q19.2 114 0 (dz_c (26 + s4.2.1)))), .ref 115, dz_I ((a1 + 110) + (q19.2 114 0 (dz_c (26 + s4.2.1)))), .ref 115]) rfl rfl ?_
          obtain ⟨k38, H⟩ := dz_ck H
          refine wq_ia (j' := dz_c ((a1 + 110) + (q19.2 114 0 (dz_c (26 + s4.2.1))))) (pc' := 139) rfl ha_M_0 rfl k38.1 k38.2 rfl ?_
          refine wp_s (i := .aload_n 0) (n := 1) (pc' := 140) (st' := [.ref 114, dz_I (q19.2 114 0 (dz_c ((a1 + 110) + (q19.2 114 0 (dz_c (26 + s4.2.1)))))), dz_I ((a1 + 110) + (q19.2 114 0 (dz_c (26 + s4.2.1)))), .ref 115]) rfl rfl ?_
          refine wq_gi (idx := 213) (pc' := 143) rfl rfl ho_M rfl rfl ?_
          refine wq_2 (i := .iadd) (z := (q19.2 114 0 (dz_c ((a1 + 110) + (q19.2 114 0 (dz_c (26 + s4.2.1)))))) + (q19.2 114 34 0)) (pc' := 144) rfl rfl (op_add _ _) rfl ?_
          refine wq_is (j' := dz_c ((a1 + 110) + (q19.2 114 0 (dz_c (26 + s4.2.1))))) (x := (q19.2 114 0 (dz_c ((a1 + 110) + (q19.2 114 0 (dz_c (26 + s4.2.1)))))) + (q19.2 114 34 0)) (pc' := 145) rfl ha_M_0 rfl k38.1 k38.2 rfl (fun Z39 eZ39 => ?_)
          replace H := dz_le H Z39 eZ39
          clear eZ39
          replace H := dz_sm H
          exact H
  · replace H := dz_if c3 H
    refine wp_s (i := .aload_n 0) (n := 1) (pc' := 21) (st' := [.ref 114]) rfl rfl ?_
    refine wq_gr (idx := 55) (a := 130) (pc' := 24) rfl rfl ho_M rfl rfl ?_
    refine wp_s (i := .iload 4) (n := 2) (pc' := 26) (st' := [dz_I s2.1, .ref 130]) rfl rfl ?_
    refine wp_s (i := .dup2) (n := 1) (pc' := 27) (st' := [dz_I s2.1, .ref 130, dz_I s2.1, .ref 130]) rfl rfl ?_
    obtain ⟨k40, H⟩ := dz_ck H
    refine wq_ia (j' := dz_c s2.1) (pc' := 28) rfl ha_M_33 rfl k40.1 k40.2 rfl ?_
    refine wp_s (i := .aload_n 0) (n := 1) (pc' := 29) (st' := [.ref 114, dz_I (s2.2 114 33 (dz_c s2.1)), dz_I s2.1, .ref 130]) rfl rfl ?_
    refine wq_gr (idx := 7) (a := 115) (pc' := 32) rfl rfl ho_M rfl rfl ?_
    refine wp_s (i := .iload_n 1) (n := 1) (pc' := 33) (st' := [dz_I a1, .ref 115, dz_I (s2.2 114 33 (dz_c s2.1)), dz_I s2.1, .ref 130]) rfl rfl ?_
    refine wp_s (i := .bipush 110) (n := 2) (pc' := 35) (st' := [dz_I 110, dz_I a1, .ref 115, dz_I (s2.2 114 33 (dz_c s2.1)), dz_I s2.1, .ref 130]) rfl rfl ?_
    refine wq_2 (i := .iadd) (z := a1 + 110) (pc' := 36) rfl rfl (op_add _ _) rfl ?_
    refine wp_s (i := .iload 4) (n := 2) (pc' := 38) (st' := [dz_I s2.1, dz_I (a1 + 110), .ref 115, dz_I (s2.2 114 33 (dz_c s2.1)), dz_I s2.1, .ref 130]) rfl rfl ?_
    refine wq_2 (i := .iadd) (z := (a1 + 110) + s2.1) (pc' := 39) rfl rfl (op_add _ _) rfl ?_
    obtain ⟨k41, H⟩ := dz_ck H
    refine wq_ia (j' := dz_c ((a1 + 110) + s2.1)) (pc' := 40) rfl ha_M_0 rfl k41.1 k41.2 rfl ?_
    refine wq_2 (i := .iadd) (z := (s2.2 114 33 (dz_c s2.1)) + (s2.2 114 0 (dz_c ((a1 + 110) + s2.1)))) (pc' := 41) rfl rfl (op_add _ _) rfl ?_
    refine wq_is (j' := dz_c s2.1) (x := (s2.2 114 33 (dz_c s2.1)) + (s2.2 114 0 (dz_c ((a1 + 110) + s2.1)))) (pc' := 42) rfl ha_M_33 rfl k40.1 k40.2 rfl (fun Z42 eZ42 => ?_)
    replace H := dz_le H Z42 eZ42
    clear eZ42
    refine wp_s (i := .aload_n 0) (n := 1) (pc' := 43) (st' := [.ref 114]) rfl rfl ?_
    refine wq_gr (idx := 7) (a := 115) (pc' := 46) rfl rfl ho_M rfl rfl ?_
    refine wp_s (i := .iload_n 1) (n := 1) (pc' := 47) (st' := [dz_I a1, .ref 115]) rfl rfl ?_
    refine wp_s (i := .bipush 110) (n := 2) (pc' := 49) (st' := [dz_I 110, dz_I a1, .ref 115]) rfl rfl ?_
    refine wq_2 (i := .iadd) (z := a1 + 110) (pc' := 50) rfl rfl (op_add _ _) rfl ?_
    refine wp_s (i := .iload 4) (n := 2) (pc' := 52) (st' := [dz_I s2.1, dz_I (a1 + 110), .ref 115]) rfl rfl ?_
    refine wq_2 (i := .iadd) (z := (a1 + 110) + s2.1) (pc' := 53) rfl rfl (op_add _ _) rfl ?_
    refine wp_s (i := .iconst 0) (n := 1) (pc' := 54) (st' := [dz_I 0, dz_I ((a1 + 110) + s2.1), .ref 115]) rfl rfl ?_
    refine wq_is (j' := dz_c ((a1 + 110) + s2.1)) (x := 0) (pc' := 55) rfl ha_M_0 rfl k41.1 k41.2 rfl (fun Z43 eZ43 => ?_)
    replace H := dz_le H Z43 eZ43
    clear eZ43
    refine wq_inc (k := 4) (d := 1) (x := s2.1) (ls' := [some (.ref 114), some (dz_I a1), some (dz_I a2), some (dz_I 0), some (dz_I (s2.1 + 1)), none]) (pc' := 58) rfl rfl rfl rfl ?_
    refine wp_s (i := .goto (-47)) (n := 3) (pc' := 11) (st' := []) rfl rfl ?_
    replace H := dz_back H
    exact H
-- 154
def jf_M_dries (a1 : Int) (Z : dz_Z) : Option (dz_Z) := dz_lp (fun (s1 : Int × dz_Z) => if 140 ≤ dz_c s1.1 then (some (Sum.inr s1.2)) else (if 0 ≤ dz_c (a1 + s1.1) ∧ dz_c (a1 + s1.1) < 700 then dz_a (dz_u s1.2 114 0 (dz_c (a1 + s1.1)) 0) fun Z4 => some (Sum.inl (s1.1 + 1, Z4)) else none)) 5000 (86, Z)
set_option maxRecDepth 20000 in
theorem jw_M_dries {X : Option (List Int32)} {D : Nat} {Q : Option Value → mm_H → Prop} (a1 : Int) (Z : dz_Z) (H : dz_p (jf_M_dries a1 Z) (fun q => Q (none) (hz_0 q))) : mm_Wp X D mm_r154 0 [some (.ref 114), some (dz_I a1), none] [] (hz_0 Z) Q := by
  unfold jf_M_dries at H
  refine wp_s (i := .bipush 86) (n := 2) (pc' := 2) (st' := [dz_I 86]) rfl rfl ?_
  refine wq_st (k := 2) (i := .istore_n 2) (n := 1) (ls' := [some (.ref 114), some (dz_I a1), some (dz_I 86)]) (pc' := 3) rfl rfl rfl rfl rfl ?_
  refine dz_lpi (P := fun (s1 : Int × dz_Z) => mm_Wp X D mm_r154 3 [some (.ref 114), some (dz_I a1), some (dz_I s1.1)] [] (hz_0 s1.2) Q) (fun s1 H => ?_) 5000 (86, Z) H
  refine wp_s (i := .iload_n 2) (n := 1) (pc' := 4) (st' := [dz_I s1.1]) rfl rfl ?_
  refine wp_s (i := .sipush 140) (n := 3) (pc' := 7) (st' := [dz_I 140, dz_I s1.1]) rfl rfl ?_
  refine wq_ic (p := 140 ≤ dz_c s1.1) (tt := 25) (pc' := 10) rfl rfl (cq_ge rfl dk_140) rfl (fun c2 => ?_) (fun c2 => ?_)
  · replace H := dz_it c2 H
    refine wq_rv rfl rfl ?_
    replace H := dz_out H
    replace H := dz_sm H
    exact H
  · replace H := dz_if c2 H
    refine wp_s (i := .aload_n 0) (n := 1) (pc' := 11) (st' := [.ref 114]) rfl rfl ?_
    refine wq_gr (idx := 7) (a := 115) (pc' := 14) rfl rfl ho_M rfl rfl ?_
    refine wp_s (i := .iload_n 1) (n := 1) (pc' := 15) (st' := [dz_I a1, .ref 115]) rfl rfl ?_
    refine wp_s (i := .iload_n 2) (n := 1) (pc' := 16) (st' := [dz_I s1.1, dz_I a1, .ref 115]) rfl rfl ?_
    refine wq_2 (i := .iadd) (z := a1 + s1.1) (pc' := 17) rfl rfl (op_add _ _) rfl ?_
    refine wp_s (i := .iconst 0) (n := 1) (pc' := 18) (st' := [dz_I 0, dz_I (a1 + s1.1), .ref 115]) rfl rfl ?_
    obtain ⟨k3, H⟩ := dz_ck H
    refine wq_is (j' := dz_c (a1 + s1.1)) (x := 0) (pc' := 19) rfl ha_M_0 rfl k3.1 k3.2 rfl (fun Z4 eZ4 => ?_)
    replace H := dz_le H Z4 eZ4
    clear eZ4
    refine wq_inc (k := 2) (d := 1) (x := s1.1) (ls' := [some (.ref 114), some (dz_I a1), some (dz_I (s1.1 + 1))]) (pc' := 22) rfl rfl rfl rfl ?_
    refine wp_s (i := .goto (-19)) (n := 3) (pc' := 3) (st' := []) rfl rfl ?_
    replace H := dz_back H
    exact H
