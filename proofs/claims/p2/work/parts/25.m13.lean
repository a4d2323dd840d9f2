-- 167
def jf_M_tells (a1 : Int) (a2 : Int) (Z : dz_Z) : Option (Int × dz_Z) := if ¬(0 ≤ dz_c a1 ∧ dz_c a1 ≤ dz_c (Z 114 0 73)) then (some ((-1), Z)) else (if 0 ≤ dz_c a2 ∧ dz_c a2 ≤ 255 then (if dz_c a1 ≠ 12 then (if 0 ≤ dz_c (74 + a1) ∧ dz_c (74 + a1) < 700 then dz_a (dz_u Z 114 0 (dz_c (74 + a1)) a2) fun Z5 => Option.bind (α := Int) (if dz_c a1 ≠ dz_c (Z5 114 0 73) then (some 0) else (some 1)) (fun (q7 : Int) => dz_a (dz_u Z5 114 0 73 ((Z5 114 0 73) + q7)) fun Z8 => some (Z8 114 0 73, Z8)) else none) else (some ((-3), Z))) else (some ((-1), Z)))
set_option maxRecDepth 20000 in
theorem jw_M_tells {X : Option (List Int32)} {D : Nat} {Q : Option Value → mm_H → Prop} (a1 : Int) (a2 : Int) (Z : dz_Z) (H : dz_p (jf_M_tells a1 a2 Z) (fun q => Q (some (dz_I q.1)) (hz_0 q.2))) : mm_Wp X (D + 1) mm_r167 0 [some (.ref 114), some (dz_I a1), some (dz_I a2)] [] (hz_0 Z) Q := by
  unfold jf_M_tells at H
  refine wp_s (i := .iload_n 1) (n := 1) (pc' := 1) (st' := [dz_I a1]) rfl rfl ?_
  refine wq_3 (i := .i2l) (v' := dz_J (dz_c a1)) (pc' := 2) rfl rfl (oq_i2l' rfl) rfl ?_
  refine wp_s (i := .lconst 0) (n := 1) (pc' := 3) (st' := [dz_J 0, dz_J (dz_c a1)]) rfl rfl ?_
  refine wp_s (i := .aload_n 0) (n := 1) (pc' := 4) (st' := [.ref 114, dz_J 0, dz_J (dz_c a1)]) rfl rfl ?_
  refine wq_gr (idx := 7) (a := 115) (pc' := 7) rfl rfl ho_M rfl rfl ?_
  refine wp_s (i := .bipush 73) (n := 2) (pc' := 9) (st' := [dz_I 73, .ref 115, dz_J 0, dz_J (dz_c a1)]) rfl rfl ?_
  refine wq_ia (j' := 73) (pc' := 10) rfl ha_M_0 dk_73 (by decide) (by decide) rfl ?_
  refine wq_3 (i := .i2l) (v' := dz_J (dz_c (Z 114 0 73))) (pc' := 11) rfl rfl (oq_i2l' rfl) rfl ?_
  refine wq_cs (Dq := D) (r' := mm_r120) (as0 := [dz_J (dz_c a1), dz_J 0, dz_J (dz_c (Z 114 0 73))]) (rest := []) (ls' := [some (dz_J (dz_c a1)), none, some (dz_J 0), none, some (dz_J (dz_c (Z 114 0 73))), none]) (pc' := 14) rfl rfl (by decide) rfl rfl rfl rfl rfl ?_
  refine jw_in (a' := dz_c a1) (b' := 0) (c' := dz_c (Z 114 0 73)) (dz_lc _) (by decide) (dz_lc _) ?_
  show mm_Wp X (D + 1) mm_r167 14 [some (.ref 114), some (dz_I a1), some (dz_I a2)] [dz_B (decide (0 ≤ dz_c a1 ∧ dz_c a1 ≤ dz_c (Z 114 0 73)))] (hz_0 Z) Q
  refine wq_if (p := ¬(0 ≤ dz_c a1 ∧ dz_c a1 ≤ dz_c (Z 114 0 73))) (tt := 29) (pc' := 17) rfl rfl (cd_eq) rfl (fun c1 => ?_) (fun c1 => ?_)
  · replace H := dz_it c1 H
    refine wp_s (i := .iconst (-1)) (n := 1) (pc' := 30) (st' := [dz_I (-1)]) rfl rfl ?_
    refine wq_ri rfl rfl ?_
    replace H := dz_sm H
    exact H
  · replace H := dz_if c1 H
    refine wp_s (i := .iload_n 2) (n := 1) (pc' := 18) (st' := [dz_I a2]) rfl rfl ?_
    refine wq_3 (i := .i2l) (v' := dz_J (dz_c a2)) (pc' := 19) rfl rfl (oq_i2l' rfl) rfl ?_
    refine wp_s (i := .lconst 0) (n := 1) (pc' := 20) (st' := [dz_J 0, dz_J (dz_c a2)]) rfl rfl ?_
    refine wp_s (i := .ldc2_w 251) (n := 3) (pc' := 23) (st' := [dz_J 255, dz_J 0, dz_J (dz_c a2)]) rfl rfl ?_
    refine wq_cs (Dq := D) (r' := mm_r120) (as0 := [dz_J (dz_c a2), dz_J 0, dz_J 255]) (rest := []) (ls' := [some (dz_J (dz_c a2)), none, some (dz_J 0), none, some (dz_J 255), none]) (pc' := 26) rfl rfl (by decide) rfl rfl rfl rfl rfl ?_
    refine jw_in (a' := dz_c a2) (b' := 0) (c' := 255) (dz_lc _) (by decide) (by decide) ?_
    show mm_Wp X (D + 1) mm_r167 26 [some (.ref 114), some (dz_I a1), some (dz_I a2)] [dz_B (decide (0 ≤ dz_c a2 ∧ dz_c a2 ≤ 255))] (hz_0 Z) Q
    refine wq_if (p := 0 ≤ dz_c a2 ∧ dz_c a2 ≤ 255) (tt := 31) (pc' := 29) rfl rfl (cd_ne) rfl (fun c2 => ?_) (fun c2 => ?_)
    · replace H := dz_it c2 H
      refine wp_s (i := .iload_n 1) (n := 1) (pc' := 32) (st' := [dz_I a1]) rfl rfl ?_
      refine wp_s (i := .bipush 12) (n := 2) (pc' := 34) (st' := [dz_I 12, dz_I a1]) rfl rfl ?_
      refine wq_ic (p := dz_c a1 ≠ 12) (tt := 40) (pc' := 37) rfl rfl (cq_ne rfl dk_12) rfl (fun c3 => ?_) (fun c3 => ?_)
      · replace H := dz_it c3 H
        refine wp_s (i := .aload_n 0) (n := 1) (pc' := 41) (st' := [.ref 114]) rfl rfl ?_
        refine wq_gr (idx := 7) (a := 115) (pc' := 44) rfl rfl ho_M rfl rfl ?_
        refine wp_s (i := .bipush 74) (n := 2) (pc' := 46) (st' := [dz_I 74, .ref 115]) rfl rfl ?_
        refine wp_s (i := .iload_n 1) (n := 1) (pc' := 47) (st' := [dz_I a1, dz_I 74, .ref 115]) rfl rfl ?_
        refine wq_2 (i := .iadd) (z := 74 + a1) (pc' := 48) rfl rfl (op_add _ _) rfl ?_
        refine wp_s (i := .iload_n 2) (n := 1) (pc' := 49) (st' := [dz_I a2, dz_I (74 + a1), .ref 115]) rfl rfl ?_
        obtain ⟨k4, H⟩ := dz_ck H
        refine wq_is (j' := dz_c (74 + a1)) (x := a2) (pc' := 50) rfl ha_M_0 rfl k4.1 k4.2 rfl (fun Z5 eZ5 => ?_)
        replace H := dz_le H Z5 eZ5
        clear eZ5
        refine wp_s (i := .aload_n 0) (n := 1) (pc' := 51) (st' := [.ref 114]) rfl rfl ?_
        refine wq_gr (idx := 7) (a := 115) (pc' := 54) rfl rfl ho_M rfl rfl ?_
        refine wp_s (i := .bipush 73) (n := 2) (pc' := 56) (st' := [dz_I 73, .ref 115]) rfl rfl ?_
        refine wp_s (i := .dup2) (n := 1) (pc' := 57) (st' := [dz_I 73, .ref 115, dz_I 73, .ref 115]) rfl rfl ?_
        refine wq_ia (j' := 73) (pc' := 58) rfl ha_M_0 dk_73 (by decide) (by decide) rfl ?_
        refine wp_s (i := .iload_n 1) (n := 1) (pc' := 59) (st' := [dz_I a1, dz_I (Z5 114 0 73), dz_I 73, .ref 115]) rfl rfl ?_
        refine wp_s (i := .aload_n 0) (n := 1) (pc' := 60) (st' := [.ref 114, dz_I a1, dz_I (Z5 114 0 73), dz_I 73, .ref 115]) rfl rfl ?_
        refine wq_gr (idx := 7) (a := 115) (pc' := 63) rfl rfl ho_M rfl rfl ?_
        refine wp_s (i := .bipush 73) (n := 2) (pc' := 65) (st' := [dz_I 73, .ref 115, dz_I a1, dz_I (Z5 114 0 73), dz_I 73, .ref 115]) rfl rfl ?_
        refine wq_ia (j' := 73) (pc' := 66) rfl ha_M_0 dk_73 (by decide) (by decide) rfl ?_
        refine dz_jn (P := fun (q7 : Int) => mm_Wp X (D + 1) mm_r167 74 [some (.ref 114), some (dz_I a1), some (dz_I a2)] [dz_I q7, dz_I (Z5 114 0 73), dz_I 73, .ref 115] (hz_0 Z5) Q) (dz_bi H) (fun q7 H => ?_) (fun H => ?_)
        · skip
          refine wq_2 (i := .iadd) (z := (Z5 114 0 73) + q7) (pc' := 75) rfl rfl (op_add _ _) rfl ?_
          refine wq_is (j' := 73) (x := (Z5 114 0 73) + q7) (pc' := 76) rfl ha_M_0 dk_73 (by decide) (by decide) rfl (fun Z8 eZ8 => ?_)
          replace H := dz_le H Z8 eZ8
          clear eZ8
          refine wp_s (i := .aload_n 0) (n := 1) (pc' := 77) (st' := [.ref 114]) rfl rfl ?_
          refine wq_gr (idx := 7) (a := 115) (pc' := 80) rfl rfl ho_M rfl rfl ?_
          refine wp_s (i := .bipush 73) (n := 2) (pc' := 82) (st' := [dz_I 73, .ref 115]) rfl rfl ?_
          refine wq_ia (j' := 73) (pc' := 83) rfl ha_M_0 dk_73 (by decide) (by decide) rfl ?_
          refine wq_ri rfl rfl ?_
          replace H := dz_sm H
          exact H
        · skip
          refine wq_ic (p := dz_c a1 ≠ dz_c (Z5 114 0 73)) (tt := 73) (pc' := 69) rfl rfl (cq_ne rfl rfl) rfl (fun c9 => ?_) (fun c9 => ?_)
          · replace H := dz_it c9 H
            refine wp_s (i := .iconst 0) (n := 1) (pc' := 74) (st' := [dz_I 0, dz_I (Z5 114 0 73), dz_I 73, .ref 115]) rfl rfl ?_
            replace H := dz_sm H
            exact H
          · replace H := dz_if c9 H
            refine wp_s (i := .iconst 1) (n := 1) (pc' := 70) (st' := [dz_I 1, dz_I (Z5 114 0 73), dz_I 73, .ref 115]) rfl rfl ?_
            refine wp_s (i := .goto 4) (n := 3) (pc' := 74) (st' := [dz_I 1, dz_I (Z5 114 0 73), dz_I 73, .ref 115]) rfl rfl ?_
            replace H := dz_sm H
            exact H
      · replace H := dz_if c3 H
        refine wp_s (i := .bipush (-3)) (n := 2) (pc' := 39) (st' := [dz_I (-3)]) rfl rfl ?_
        refine wq_ri rfl rfl ?_
        replace H := dz_sm H
        exact H
    · replace H := dz_if c2 H
      refine wp_s (i := .iconst (-1)) (n := 1) (pc' := 30) (st' := [dz_I (-1)]) rfl rfl ?_
      refine wq_ri rfl rfl ?_
      replace H := dz_sm H
      exact H
-- 168
def jf_M_bitsOf (a1 : Int) : Option (Int) := dz_lp (fun (s1 : Int × Int) => if 8 ≤ dz_c s1.2 then (some (Sum.inr s1.1)) else (some (Sum.inl (s1.1 + (dz_an (dz_sr a1 s1.2) 1), s1.2 + 1)))) 5000 (0, 0)
set_option maxRecDepth 20000 in
theorem jw_M_bitsOf {X : Option (List Int32)} {D : Nat} {Q : Option Value → mm_H → Prop} (a1 : Int) (Z : dz_Z) (H : dz_p (jf_M_bitsOf a1) (fun q => Q (some (dz_I q)) (hz_0 Z))) : mm_Wp X D mm_r168 0 [some (dz_I a1), none, none] [] (hz_0 Z) Q := by
  unfold jf_M_bitsOf at H
  refine wp_s (i := .iconst 0) (n := 1) (pc' := 1) (st' := [dz_I 0]) rfl rfl ?_
  refine wq_st (k := 1) (i := .istore_n 1) (n := 1) (ls' := [some (dz_I a1), some (dz_I 0), none]) (pc' := 2) rfl rfl rfl rfl rfl ?_
  refine wp_s (i := .iconst 0) (n := 1) (pc' := 3) (st' := [dz_I 0]) rfl rfl ?_
  refine wq_st (k := 2) (i := .istore_n 2) (n := 1) (ls' := [some (dz_I a1), some (dz_I 0), some (dz_I 0)]) (pc' := 4) rfl rfl rfl rfl rfl ?_
  refine dz_lpi (P := fun (s1 : Int × Int) => mm_Wp X D mm_r168 4 [some (dz_I a1), some (dz_I s1.1), some (dz_I s1.2)] [] (hz_0 Z) Q) (fun s1 H => ?_) 5000 (0, 0) H
  refine wp_s (i := .iload_n 2) (n := 1) (pc' := 5) (st' := [dz_I s1.2]) rfl rfl ?_
  refine wp_s (i := .bipush 8) (n := 2) (pc' := 7) (st' := [dz_I 8, dz_I s1.2]) rfl rfl ?_
  refine wq_ic (p := 8 ≤ dz_c s1.2) (tt := 24) (pc' := 10) rfl rfl (cq_ge rfl dk_8) rfl (fun c2 => ?_) (fun c2 => ?_)
  · replace H := dz_it c2 H
    refine wp_s (i := .iload_n 1) (n := 1) (pc' := 25) (st' := [dz_I s1.1]) rfl rfl ?_
    refine wq_ri rfl rfl ?_
    replace H := dz_out H
    replace H := dz_sm H
    exact H
  · replace H := dz_if c2 H
    refine wp_s (i := .iload_n 1) (n := 1) (pc' := 11) (st' := [dz_I s1.1]) rfl rfl ?_
    refine wp_s (i := .iload_n 0) (n := 1) (pc' := 12) (st' := [dz_I a1, dz_I s1.1]) rfl rfl ?_
    refine wp_s (i := .iload_n 2) (n := 1) (pc' := 13) (st' := [dz_I s1.2, dz_I a1, dz_I s1.1]) rfl rfl ?_
    refine wq_2 (i := .ishr) (z := dz_sr a1 s1.2) (pc' := 14) rfl rfl (op_shr _ _) rfl ?_
    refine wp_s (i := .iconst 1) (n := 1) (pc' := 15) (st' := [dz_I 1, dz_I (dz_sr a1 s1.2), dz_I s1.1]) rfl rfl ?_
    refine wq_2 (i := .iand) (z := dz_an (dz_sr a1 s1.2) 1) (pc' := 16) rfl rfl (op_and _ _) rfl ?_
    refine wq_2 (i := .iadd) (z := s1.1 + (dz_an (dz_sr a1 s1.2) 1)) (pc' := 17) rfl rfl (op_add _ _) rfl ?_
    refine wq_st (k := 1) (i := .istore_n 1) (n := 1) (ls' := [some (dz_I a1), some (dz_I (s1.1 + (dz_an (dz_sr a1 s1.2) 1))), some (dz_I s1.2)]) (pc' := 18) rfl rfl rfl rfl rfl ?_
    refine wq_inc (k := 2) (d := 1) (x := s1.2) (ls' := [some (dz_I a1), some (dz_I (s1.1 + (dz_an (dz_sr a1 s1.2) 1))), some (dz_I (s1.2 + 1))]) (pc' := 21) rfl rfl rfl rfl ?_
    refine wp_s (i := .goto (-17)) (n := 3) (pc' := 4) (st' := []) rfl rfl ?_
    replace H := dz_back H
    exact H
-- 169
def jf_M_farOf (a1 : Int) (Z : dz_Z) : Option (Int × dz_Z) := Option.bind (jf_M_plays2 a1 Z) fun q1 => dz_lp (fun (s2 : Int × Int) => if 12 ≤ dz_c s2.2 then (some (Sum.inr (s2.1, q1))) else (Option.bind (jf_M_lengthOf a1 q1) fun q6 => Option.bind (α := Int) (if dz_c q6 ≤ dz_c s2.2 then (some 0) else (if 0 ≤ dz_c s2.2 ∧ dz_c s2.2 < 12 then some (q1 114 35 (dz_c s2.2)) else none)) (fun (q9 : Int) => Option.bind (α := Int) (if dz_c (q1 114 0 73) ≤ dz_c s2.2 then (some 0) else (if 0 ≤ dz_c (74 + s2.2) ∧ dz_c (74 + s2.2) < 700 then some (q1 114 0 (dz_c (74 + s2.2))) else none)) (fun (q12 : Int) => Option.bind (jf_M_bitsOf (dz_xo q9 q12)) fun q13 => some (Sum.inl (s2.1 + q13, s2.2 + 1)))))) 5000 (0, 0)
set_option maxRecDepth 20000 in
theorem jw_M_farOf {X : Option (List Int32)} {D : Nat} {Q : Option Value → mm_H → Prop} (a1 : Int) (Z : dz_Z) (H : dz_p (jf_M_farOf a1 Z) (fun q => Q (some (dz_I q.1)) (hz_0 q.2))) : mm_Wp X (D + 5) mm_r169 0 [some (.ref 114), some (dz_I a1), none, none, none, none] [] (hz_0 Z) Q := by
  unfold jf_M_farOf at H
  refine wp_s (i := .aload_n 0) (n := 1) (pc' := 1) (st' := [.ref 114]) rfl rfl ?_
  refine wp_s (i := .iload_n 1) (n := 1) (pc' := 2) (st' := [dz_I a1, .ref 114]) rfl rfl ?_
  refine wq_cv (Dq := (D + 4)) (r' := mm_r162) (as0 := [dz_I a1]) (rest := []) (ls' := [some (.ref 114), some (dz_I a1)]) (pc' := 5) rfl rfl rfl rfl ho_M rfl rfl rfl ?_
  refine jw_M_plays2 (X := X) (D := D + 0) a1 Z (dz_pm (dz_bi H) (fun q1 H => ?_))
  show mm_Wp X (D + 5) mm_r169 5 [some (.ref 114), some (dz_I a1), none, none, none, none] [] (hz_0 q1) Q
  refine wp_s (i := .iconst 0) (n := 1) (pc' := 6) (st' := [dz_I 0]) rfl rfl ?_
  refine wq_st (k := 2) (i := .istore_n 2) (n := 1) (ls' := [some (.ref 114), some (dz_I a1), some (dz_I 0), none, none, none]) (pc' := 7) rfl rfl rfl rfl rfl ?_
  refine wp_s (i := .iconst 0) (n := 1) (pc' := 8) (st' := [dz_I 0]) rfl rfl ?_
  refine wq_st (k := 3) (i := .istore_n 3) (n := 1) (ls' := [some (.ref 114), some (dz_I a1), some (dz_I 0), some (dz_I 0), none, none]) (pc' := 9) rfl rfl rfl rfl rfl ?_
  refine dz_lpi (P := fun (s2 : Int × Int) => ∀ (u3 u4 : Option Int32), mm_Wp X (D + 5) mm_r169 9 [some (.ref 114), some (dz_I a1), some (dz_I s2.1), some (dz_I s2.2), Option.map Value.int u3, Option.map Value.int u4] [] (hz_0 q1) Q) (fun s2 H => ?_) 5000 (0, 0) H none none
  intro u3 u4
  refine wp_s (i := .iload_n 3) (n := 1) (pc' := 10) (st' := [dz_I s2.2]) rfl rfl ?_
  refine wp_s (i := .bipush 12) (n := 2) (pc' := 12) (st' := [dz_I 12, dz_I s2.2]) rfl rfl ?_
  refine wq_ic (p := 12 ≤ dz_c s2.2) (tt := 79) (pc' := 15) rfl rfl (cq_ge rfl dk_12) rfl (fun c5 => ?_) (fun c5 => ?_)
  · replace H := dz_it c5 H
    refine wp_s (i := .iload_n 2) (n := 1) (pc' := 80) (st' := [dz_I s2.1]) rfl rfl ?_
    refine wq_ri rfl rfl ?_
    replace H := dz_out H
    replace H := dz_sm H
    exact H
  · replace H := dz_if c5 H
    refine wp_s (i := .iload_n 3) (n := 1) (pc' := 16) (st' := [dz_I s2.2]) rfl rfl ?_
    refine wp_s (i := .aload_n 0) (n := 1) (pc' := 17) (st' := [.ref 114, dz_I s2.2]) rfl rfl ?_
    refine wp_s (i := .iload_n 1) (n := 1) (pc' := 18) (st' := [dz_I a1, .ref 114, dz_I s2.2]) rfl rfl ?_
    refine wq_cv (Dq := (D + 4)) (r' := mm_r160) (as0 := [dz_I a1]) (rest := [dz_I s2.2]) (ls' := [some (.ref 114), some (dz_I a1)]) (pc' := 21) rfl rfl rfl rfl ho_M rfl rfl rfl ?_
    refine jw_M_lengthOf (X := X) (D := D + 4) a1 q1 (dz_pm (dz_bi H) (fun q6 H => ?_))
    show mm_Wp X (D + 5) mm_r169 21 [some (.ref 114), some (dz_I a1), some (dz_I s2.1), some (dz_I s2.2), Option.map Value.int u3, Option.map Value.int u4] [dz_I q6, dz_I s2.2] (hz_0 q1) Q
    refine dz_jn (P := fun (q9 : Int) => mm_Wp X (D + 5) mm_r169 34 [some (.ref 114), some (dz_I a1), some (dz_I s2.1), some (dz_I s2.2), Option.map Value.int u3, Option.map Value.int u4] [dz_I q9] (hz_0 q1) Q) (dz_bi H) (fun q9 H => ?_) (fun H => ?_)
    · skip
      refine wq_st (k := 4) (i := .istore 4) (n := 2) (ls' := [some (.ref 114), some (dz_I a1), some (dz_I s2.1), some (dz_I s2.2), some (dz_I q9), Option.map Value.int u4]) (pc' := 36) rfl rfl rfl rfl rfl ?_
      refine wp_s (i := .iload_n 3) (n := 1) (pc' := 37) (st' := [dz_I s2.2]) rfl rfl ?_
      refine wp_s (i := .aload_n 0) (n := 1) (pc' := 38) (st' := [.ref 114, dz_I s2.2]) rfl rfl ?_
      refine wq_gr (idx := 7) (a := 115) (pc' := 41) rfl rfl ho_M rfl rfl ?_
      refine wp_s (i := .bipush 73) (n := 2) (pc' := 43) (st' := [dz_I 73, .ref 115, dz_I s2.2]) rfl rfl ?_
      refine wq_ia (j' := 73) (pc' := 44) rfl ha_M_0 dk_73 (by decide) (by decide) rfl ?_
      refine dz_jn (P := fun (q12 : Int) => mm_Wp X (D + 5) mm_r169 60 [some (.ref 114), some (dz_I a1), some (dz_I s2.1), some (dz_I s2.2), some (dz_I q9), Option.map Value.int u4] [dz_I q12] (hz_0 q1) Q) (dz_bi H) (fun q12 H => ?_) (fun H => ?_)
      · skip
        refine wq_st (k := 5) (i := .istore 5) (n := 2) (ls' := [some (.ref 114), some (dz_I a1), some (dz_I s2.1), some (dz_I s2.2), some (dz_I q9), some (dz_I q12)]) (pc' := 62) rfl rfl rfl rfl rfl ?_
        refine wp_s (i := .iload_n 2) (n := 1) (pc' := 63) (st' := [dz_I s2.1]) rfl rfl ?_
        refine wp_s (i := .iload 4) (n := 2) (pc' := 65) (st' := [dz_I q9, dz_I s2.1]) rfl rfl ?_
        refine wp_s (i := .iload 5) (n := 2) (pc' := 67) (st' := [dz_I q12, dz_I q9, dz_I s2.1]) rfl rfl ?_
        refine wq_2 (i := .ixor) (z := dz_xo q9 q12) (pc' := 68) rfl rfl (op_xor _ _) rfl ?_
        refine wq_cs (Dq := (D + 4)) (r' := mm_r168) (as0 := [dz_I (dz_xo q9 q12)]) (rest := [dz_I s2.1]) (ls' := [some (dz_I (dz_xo q9 q12)), none, none]) (pc' := 71) rfl rfl (by decide) rfl rfl rfl rfl rfl ?_
        refine jw_M_bitsOf (X := X) (D := D + 4) (dz_xo q9 q12) q1 (dz_pm (dz_bi H) (fun q13 H => ?_))
        show mm_Wp X (D + 5) mm_r169 71 [some (.ref 114), some (dz_I a1), some (dz_I s2.1), some (dz_I s2.2), some (dz_I q9), some (dz_I q12)] [dz_I q13, dz_I s2.1] (hz_0 q1) Q
        refine wq_2 (i := .iadd) (z := s2.1 + q13) (pc' := 72) rfl rfl (op_add _ _) rfl ?_
        refine wq_st (k := 2) (i := .istore_n 2) (n := 1) (ls' := [some (.ref 114), some (dz_I a1), some (dz_I (s2.1 + q13)), some (dz_I s2.2), some (dz_I q9), some (dz_I q12)]) (pc' := 73) rfl rfl rfl rfl rfl ?_
        refine wq_inc (k := 3) (d := 1) (x := s2.2) (ls' := [some (.ref 114), some (dz_I a1), some (dz_I (s2.1 + q13)), some (dz_I (s2.2 + 1)), some (dz_I q9), some (dz_I q12)]) (pc' := 76) rfl rfl rfl rfl ?_
        refine wp_s (i := .goto (-67)) (n := 3) (pc' := 9) (st' := []) rfl rfl ?_
        replace H := dz_back H
        exact H (some (Int32.ofInt q9)) (some (Int32.ofInt q12))
      · skip
        refine wq_ic (p := dz_c (q1 114 0 73) ≤ dz_c s2.2) (tt := 59) (pc' := 47) rfl rfl (cq_ge rfl rfl) rfl (fun c14 => ?_) (fun c14 => ?_)
        · replace H := dz_it c14 H
          refine wp_s (i := .iconst 0) (n := 1) (pc' := 60) (st' := [dz_I 0]) rfl rfl ?_
          replace H := dz_sm H
          exact H
        · replace H := dz_if c14 H
          refine wp_s (i := .aload_n 0) (n := 1) (pc' := 48) (st' := [.ref 114]) rfl rfl ?_
          refine wq_gr (idx := 7) (a := 115) (pc' := 51) rfl rfl ho_M rfl rfl ?_
          refine wp_s (i := .bipush 74) (n := 2) (pc' := 53) (st' := [dz_I 74, .ref 115]) rfl rfl ?_
          refine wp_s (i := .iload_n 3) (n := 1) (pc' := 54) (st' := [dz_I s2.2, dz_I 74, .ref 115]) rfl rfl ?_
          refine wq_2 (i := .iadd) (z := 74 + s2.2) (pc' := 55) rfl rfl (op_add _ _) rfl ?_
          obtain ⟨k15, H⟩ := dz_ck H
          refine wq_ia (j' := dz_c (74 + s2.2)) (pc' := 56) rfl ha_M_0 rfl k15.1 k15.2 rfl ?_
          refine wp_s (i := .goto 4) (n := 3) (pc' := 60) (st' := [dz_I (q1 114 0 (dz_c (74 + s2.2)))]) rfl rfl ?_
          replace H := dz_sm H
          exact H
    · skip
      refine wq_ic (p := dz_c q6 ≤ dz_c s2.2) (tt := 33) (pc' := 24) rfl rfl (cq_ge rfl rfl) rfl (fun c16 => ?_) (fun c16 => ?_)
      · replace H := dz_it c16 H
        refine wp_s (i := .iconst 0) (n := 1) (pc' := 34) (st' := [dz_I 0]) rfl rfl ?_
        replace H := dz_sm H
        exact H
      · replace H := dz_if c16 H
        refine wp_s (i := .aload_n 0) (n := 1) (pc' := 25) (st' := [.ref 114]) rfl rfl ?_
        refine wq_gr (idx := 58) (a := 131) (pc' := 28) rfl rfl ho_M rfl rfl ?_
        refine wp_s (i := .iload_n 3) (n := 1) (pc' := 29) (st' := [dz_I s2.2, .ref 131]) rfl rfl ?_
        obtain ⟨k17, H⟩ := dz_ck H
        refine wq_ia (j' := dz_c s2.2) (pc' := 30) rfl ha_M_35 rfl k17.1 k17.2 rfl ?_
        refine wp_s (i := .goto 4) (n := 3) (pc' := 34) (st' := [dz_I (q1 114 35 (dz_c s2.2))]) rfl rfl ?_
        replace H := dz_sm H
        exact H
-- 170
def jf_M_far (a1 : Int) (Z : dz_Z) : Option (Int × dz_Z) := Option.bind (jf_M_isShower a1 Z) fun q1 => if q1 = false then (some ((-1), Z)) else (Option.bind (jf_M_farOf a1 Z) fun q3 => some (q3.1, q3.2))
set_option maxRecDepth 20000 in
theorem jw_M_far {X : Option (List Int32)} {D : Nat} {Q : Option Value → mm_H → Prop} (a1 : Int) (Z : dz_Z) (H : dz_p (jf_M_far a1 Z) (fun q => Q (some (dz_I q.1)) (hz_0 q.2))) : mm_Wp X (D + 6) mm_r170 0 [some (.ref 114), some (dz_I a1)] [] (hz_0 Z) Q := by
  unfold jf_M_far at H
  refine wp_s (i := .aload_n 0) (n := 1) (pc' := 1) (st' := [.ref 114]) rfl rfl ?_
  refine wp_s (i := .iload_n 1) (n := 1) (pc' := 2) (st' := [dz_I a1, .ref 114]) rfl rfl ?_
  refine wq_cv (Dq := (D + 5)) (r' := mm_r140) (as0 := [dz_I a1]) (rest := []) (ls' := [some (.ref 114), some (dz_I a1)]) (pc' := 5) rfl rfl rfl rfl ho_M rfl rfl rfl ?_
  refine jw_M_isShower (X := X) (D := D + 4) a1 Z (dz_pm (dz_bi H) (fun q1 H => ?_))
  show mm_Wp X (D + 6) mm_r170 5 [some (.ref 114), some (dz_I a1)] [dz_B q1] (hz_0 Z) Q
  refine wq_if (p := q1 = false) (tt := 16) (pc' := 8) rfl rfl (cb_eq) rfl (fun c2 => ?_) (fun c2 => ?_)
  · replace H := dz_it c2 H
    refine wp_s (i := .iconst (-1)) (n := 1) (pc' := 17) (st' := [dz_I (-1)]) rfl rfl ?_
    refine wq_ri rfl rfl ?_
    replace H := dz_sm H
    exact H
  · replace H := dz_if c2 H
    refine wp_s (i := .aload_n 0) (n := 1) (pc' := 9) (st' := [.ref 114]) rfl rfl ?_
    refine wp_s (i := .iload_n 1) (n := 1) (pc' := 10) (st' := [dz_I a1, .ref 114]) rfl rfl ?_
    refine wq_cv (Dq := (D + 5)) (r' := mm_r169) (as0 := [dz_I a1]) (rest := []) (ls' := [some (.ref 114), some (dz_I a1), none, none, none, none]) (pc' := 13) rfl rfl rfl rfl ho_M rfl rfl rfl ?_
    refine jw_M_farOf (X := X) (D := D + 0) a1 Z (dz_pm (dz_bi H) (fun q3 H => ?_))
    show mm_Wp X (D + 6) mm_r170 13 [some (.ref 114), some (dz_I a1)] [dz_I q3.1] (hz_0 q3.2) Q
    refine wp_s (i := .goto 4) (n := 3) (pc' := 17) (st' := [dz_I q3.1]) rfl rfl ?_
    refine wq_ri rfl rfl ?_
    replace H := dz_sm H
    exact H
-- 171
def jf_M_layBest (a1 : Int) (Z : dz_Z) : Option (dz_Z) := Option.bind (jf_M_settingsNow Z) fun q1 => dz_a (dz_u Z 114 38 0 (-4)) fun Z2 => dz_a (dz_u Z2 114 39 0 0) fun Z3 => dz_lp (fun (s4 : Int × dz_Z) => Option.bind (jf_M_settingMany s4.2) fun q6 => if dz_c q6 ≤ dz_c s4.1 then (Option.bind (jf_M_sets q1 s4.2) fun q8 => some (Sum.inr q8)) else (Option.bind (jf_M_sets s4.1 s4.2) fun q9 => Option.bind (jf_M_farOf a1 q9) fun q10 => Option.bind (α := Int) (if dz_c (q10.2 114 38 0) = (-4) then (some 1) else (if dz_c (q10.2 114 39 0) ≤ dz_c q10.1 then (if dz_c q10.1 ≠ dz_c (q10.2 114 39 0) then (some (q10.2 114 40 0)) else (some ((q10.2 114 40 0) + 1))) else (some 1))) (fun (q14 : Int) => dz_a (dz_u q10.2 114 40 0 q14) fun Z15 => if dz_c (Z15 114 38 0) = (-4) then (dz_a (dz_u Z15 114 38 0 s4.1) fun Z17 => dz_a (dz_u Z17 114 39 0 q10.1) fun Z18 => some (Sum.inl (s4.1 + 1, Z18))) else (if dz_c (Z15 114 39 0) ≤ dz_c q10.1 then (some (Sum.inl (s4.1 + 1, Z15))) else (dz_a (dz_u Z15 114 38 0 s4.1) fun Z20 => dz_a (dz_u Z20 114 39 0 q10.1) fun Z21 => some (Sum.inl (s4.1 + 1, Z21))))))) 5000 (0, Z3)
set_option maxRecDepth 20000 in
theorem jw_M_layBest {X : Option (List Int32)} {D : Nat} {Q : Option Value → mm_H → Prop} (a1 : Int) (Z : dz_Z) (H : dz_p (jf_M_layBest a1 Z) (fun q => Q (none) (hz_0 q))) : mm_Wp X (D + 6) mm_r171 0 [some (.ref 114), some (dz_I a1), none, none, none] [] (hz_0 Z) Q := by
  unfold jf_M_layBest at H
  refine wp_s (i := .aload_n 0) (n := 1) (pc' := 1) (st' := [.ref 114]) rfl rfl ?_
  refine wq_cv (Dq := (D + 5)) (r' := mm_r147) (as0 := []) (rest := []) (ls' := [some (.ref 114), none, none]) (pc' := 4) rfl rfl rfl rfl ho_M rfl rfl rfl ?_
  refine jw_M_settingsNow (X := X) (D := D + 5) Z (dz_pm (dz_bi H) (fun q1 H => ?_))
  show mm_Wp X (D + 6) mm_r171 4 [some (.ref 114), some (dz_I a1), none, none, none] [dz_I q1] (hz_0 Z) Q
  refine wq_st (k := 2) (i := .istore_n 2) (n := 1) (ls' := [some (.ref 114), some (dz_I a1), some (dz_I q1), none, none]) (pc' := 5) rfl rfl rfl rfl rfl ?_
  refine wp_s (i := .aload_n 0) (n := 1) (pc' := 6) (st' := [.ref 114]) rfl rfl ?_
  refine wp_s (i := .bipush (-4)) (n := 2) (pc' := 8) (st' := [dz_I (-4), .ref 114]) rfl rfl ?_
  refine wq_pi (idx := 259) (x := (-4)) (pc' := 11) rfl rfl rfl ho_M rfl rfl rfl rfl (fun Z2 eZ2 => ?_)
  replace H := dz_le H Z2 eZ2
  clear eZ2
  refine wp_s (i := .aload_n 0) (n := 1) (pc' := 12) (st' := [.ref 114]) rfl rfl ?_
  refine wp_s (i := .iconst 0) (n := 1) (pc' := 13) (st' := [dz_I 0, .ref 114]) rfl rfl ?_
  refine wq_pi (idx := 262) (x := 0) (pc' := 16) rfl rfl rfl ho_M rfl rfl rfl rfl (fun Z3 eZ3 => ?_)
  replace H := dz_le H Z3 eZ3
  clear eZ3
  refine wp_s (i := .iconst 0) (n := 1) (pc' := 17) (st' := [dz_I 0]) rfl rfl ?_
  refine wq_st (k := 3) (i := .istore_n 3) (n := 1) (ls' := [some (.ref 114), some (dz_I a1), some (dz_I q1), some (dz_I 0), none]) (pc' := 18) rfl rfl rfl rfl rfl ?_
  refine dz_lpi (P := fun (s4 : Int × dz_Z) => ∀ (u5 : Option Int32), mm_Wp X (D + 6) mm_r171 18 [some (.ref 114), some (dz_I a1), some (dz_I q1), some (dz_I s4.1), Option.map Value.int u5] [] (hz_0 s4.2) Q) (fun s4 H => ?_) 5000 (0, Z3) H none
  intro u5
  refine wp_s (i := .iload_n 3) (n := 1) (pc' := 19) (st' := [dz_I s4.1]) rfl rfl ?_
  refine wp_s (i := .aload_n 0) (n := 1) (pc' := 20) (st' := [.ref 114, dz_I s4.1]) rfl rfl ?_
  refine wq_cv (Dq := (D + 5)) (r' := mm_r146) (as0 := []) (rest := [dz_I s4.1]) (ls' := [some (.ref 114), none, none]) (pc' := 23) rfl rfl rfl rfl ho_M rfl rfl rfl ?_
  refine jw_M_settingMany (X := X) (D := D + 5) s4.2 (dz_pm (dz_bi H) (fun q6 H => ?_))
  show mm_Wp X (D + 6) mm_r171 23 [some (.ref 114), some (dz_I a1), some (dz_I q1), some (dz_I s4.1), Option.map Value.int u5] [dz_I q6, dz_I s4.1] (hz_0 s4.2) Q
  refine wq_ic (p := dz_c q6 ≤ dz_c s4.1) (tt := 121) (pc' := 26) rfl rfl (cq_ge rfl rfl) rfl (fun c7 => ?_) (fun c7 => ?_)
  · replace H := dz_it c7 H
    refine wp_s (i := .aload_n 0) (n := 1) (pc' := 122) (st' := [.ref 114]) rfl rfl ?_
    refine wp_s (i := .iload_n 2) (n := 1) (pc' := 123) (st' := [dz_I q1, .ref 114]) rfl rfl ?_
    refine wq_cv (Dq := (D + 5)) (r' := mm_r148) (as0 := [dz_I q1]) (rest := []) (ls' := [some (.ref 114), some (dz_I q1), none, none]) (pc' := 126) rfl rfl rfl rfl ho_M rfl rfl rfl ?_
    refine jw_M_sets (X := X) (D := D + 5) q1 s4.2 (dz_pm (dz_bi H) (fun q8 H => ?_))
    show mm_Wp X (D + 6) mm_r171 126 [some (.ref 114), some (dz_I a1), some (dz_I q1), some (dz_I s4.1), Option.map Value.int u5] [] (hz_0 q8) Q
    refine wq_rv rfl rfl ?_
    replace H := dz_out H
    replace H := dz_sm H
    exact H
  · replace H := dz_if c7 H
    refine wp_s (i := .aload_n 0) (n := 1) (pc' := 27) (st' := [.ref 114]) rfl rfl ?_
    refine wp_s (i := .iload_n 3) (n := 1) (pc' := 28) (st' := [dz_I s4.1, .ref 114]) rfl rfl ?_
    refine wq_cv (Dq := (D + 5)) (r' := mm_r148) (as0 := [dz_I s4.1]) (rest := []) (ls' := [some (.ref 114), some (dz_I s4.1), none, none]) (pc' := 31) rfl rfl rfl rfl ho_M rfl rfl rfl ?_
    refine jw_M_sets (X := X) (D := D + 5) s4.1 s4.2 (dz_pm (dz_bi H) (fun q9 H => ?_))
    show mm_Wp X (D + 6) mm_r171 31 [some (.ref 114), some (dz_I a1), some (dz_I q1), some (dz_I s4.1), Option.map Value.int u5] [] (hz_0 q9) Q
    refine wp_s (i := .aload_n 0) (n := 1) (pc' := 32) (st' := [.ref 114]) rfl rfl ?_
    refine wp_s (i := .iload_n 1) (n := 1) (pc' := 33) (st' := [dz_I a1, .ref 114]) rfl rfl ?_
    refine wq_cv (Dq := (D + 5)) (r' := mm_r169) (as0 := [dz_I a1]) (rest := []) (ls' := [some (.ref 114), some (dz_I a1), none, none, none, none]) (pc' := 36) rfl rfl rfl rfl ho_M rfl rfl rfl ?_
    refine jw_M_farOf (X := X) (D := D + 0) a1 q9 (dz_pm (dz_bi H) (fun q10 H => ?_))
    show mm_Wp X (D + 6) mm_r171 36 [some (.ref 114), some (dz_I a1), some (dz_I q1), some (dz_I s4.1), Option.map Value.int u5] [dz_I q10.1] (hz_0 q10.2) Q
    refine wq_st (k := 4) (i := .istore 4) (n := 2) (ls' := [some (.ref 114), some (dz_I a1), some (dz_I q1), some (dz_I s4.1), some (dz_I q10.1)]) (pc' := 38) rfl rfl rfl rfl rfl ?_
    refine wp_s (i := .aload_n 0) (n := 1) (pc' := 39) (st' := [.ref 114]) rfl rfl ?_
    refine wp_s (i := .aload_n 0) (n := 1) (pc' := 40) (st' := [.ref 114, .ref 114]) rfl rfl ?_
    refine wq_gi (idx := 259) (pc' := 43) rfl rfl ho_M rfl rfl ?_
    refine wp_s (i := .bipush (-4)) (n := 2) (pc' := 45) (st' := [dz_I (-4), dz_I (q10.2 114 38 0), .ref 114]) rfl rfl ?_
    refine dz_jn (P := fun (q14 : Int) => mm_Wp X (D + 6) mm_r171 83 [some (.ref 114), some (dz_I a1), some (dz_I q1), some (dz_I s4.1), some (dz_I q10.1)] [dz_I q14, .ref 114] (hz_0 q10.2) Q) (dz_bi H) (fun q14 H => ?_) (fun H => ?_)
    · skip
      refine wq_pi (idx := 265) (x := q14) (pc' := 86) rfl rfl rfl ho_M rfl rfl rfl rfl (fun Z15 eZ15 => ?_)
      replace H := dz_le H Z15 eZ15
      clear eZ15
      refine wp_s (i := .aload_n 0) (n := 1) (pc' := 87) (st' := [.ref 114]) rfl rfl ?_
      refine wq_gi (idx := 259) (pc' := 90) rfl rfl ho_M rfl rfl ?_
      refine wp_s (i := .bipush (-4)) (n := 2) (pc' := 92) (st' := [dz_I (-4), dz_I (Z15 114 38 0)]) rfl rfl ?_
      refine wq_ic (p := dz_c (Z15 114 38 0) = (-4)) (tt := 104) (pc' := 95) rfl rfl (cq_eq rfl dk_m4) rfl (fun c16 => ?_) (fun c16 => ?_)
      · replace H := dz_it c16 H
        refine wp_s (i := .aload_n 0) (n := 1) (pc' := 105) (st' := [.ref 114]) rfl rfl ?_
        refine wp_s (i := .iload_n 3) (n := 1) (pc' := 106) (st' := [dz_I s4.1, .ref 114]) rfl rfl ?_
        refine wq_pi (idx := 259) (x := s4.1) (pc' := 109) rfl rfl rfl ho_M rfl rfl rfl rfl (fun Z17 eZ17 => ?_)
        replace H := dz_le H Z17 eZ17
        clear eZ17
        refine wp_s (i := .aload_n 0) (n := 1) (pc' := 110) (st' := [.ref 114]) rfl rfl ?_
        refine wp_s (i := .iload 4) (n := 2) (pc' := 112) (st' := [dz_I q10.1, .ref 114]) rfl rfl ?_
        refine wq_pi (idx := 262) (x := q10.1) (pc' := 115) rfl rfl rfl ho_M rfl rfl rfl rfl (fun Z18 eZ18 => ?_)
        replace H := dz_le H Z18 eZ18
        clear eZ18
        refine wq_inc (k := 3) (d := 1) (x := s4.1) (ls' := [some (.ref 114), some (dz_I a1), some (dz_I q1), some (dz_I (s4.1 + 1)), some (dz_I q10.1)]) (pc' := 118) rfl rfl rfl rfl ?_
        refine wp_s (i := .goto (-100)) (n := 3) (pc' := 18) (st' := []) rfl rfl ?_
        replace H := dz_back H
        exact H (some (Int32.ofInt q10.1))
      · replace H := dz_if c16 H
        refine wp_s (i := .iload 4) (n := 2) (pc' := 97) (st' := [dz_I q10.1]) rfl rfl ?_
        refine wp_s (i := .aload_n 0) (n := 1) (pc' := 98) (st' := [.ref 114, dz_I q10.1]) rfl rfl ?_
        refine wq_gi (idx := 262) (pc' := 101) rfl rfl ho_M rfl rfl ?_
        refine wq_ic (p := dz_c (Z15 114 39 0) ≤ dz_c q10.1) (tt := 115) (pc' := 104) rfl rfl (cq_ge rfl rfl) rfl (fun c19 => ?_) (fun c19 => ?_)
        · replace H := dz_it c19 H
          refine wq_inc (k := 3) (d := 1) (x := s4.1) (ls' := [some (.ref 114), some (dz_I a1), some (dz_I q1), some (dz_I (s4.1 + 1)), some (dz_I q10.1)]) (pc' := 118) rfl rfl rfl rfl ?_
          refine wp_s (i := .goto (-100)) (n := 3) (pc' := 18) (st' := []) rfl rfl ?_
          replace H := dz_back H
          exact H (some (Int32.ofInt q10.1))
        · replace H := dz_if c19 H
          refine wp_s (i := .aload_n 0) (n := 1) (pc' := 105) (st' := [.ref 114]) rfl rfl ?_
          refine wp_s (i := .iload_n 3) (n := 1) (pc' := 106) (st' := [dz_I s4.1, .ref 114]) rfl rfl ?_
          refine wq_pi (idx := 259) (x := s4.1) (pc' := 109) rfl rfl rfl ho_M rfl rfl rfl rfl (fun Z20 eZ20 => ?_)
          replace H := dz_le H Z20 eZ20
          clear eZ20
          refine wp_s (i := .aload_n 0) (n := 1) (pc' := 110) (st' := [.ref 114]) rfl rfl ?_
          refine wp_s (i := .iload 4) (n := 2) (pc' := 112) (st' := [dz_I q10.1, .ref 114]) rfl rfl ?_
          refine wq_pi (idx := 262) (x := q10.1) (pc' := 115) rfl rfl rfl ho_M rfl rfl rfl rfl (fun Z21 eZ21 => ?_)
          replace H := dz_le H Z21 eZ21
          clear eZ21
          refine wq_inc (k := 3) (d := 1) (x := s4.1) (ls' := [some (.ref 114), some (dz_I a1), some (dz_I q1), some (dz_I (s4.1 + 1)), some (dz_I q10.1)]) (pc' := 118) rfl rfl rfl rfl ?_
          refine wp_s (i := .goto (-100)) (n := 3) (pc' := 18) (st' := []) rfl rfl ?_
          replace H := dz_back H
          exact H (some (Int32.ofInt q10.1))
    · skip
      refine wq_ic (p := dz_c (q10.2 114 38 0) = (-4)) (tt := 57) (pc' := 48) rfl rfl (cq_eq rfl dk_m4) rfl (fun c22 => ?_) (fun c22 => ?_)
      · replace H := dz_it c22 H
        refine wp_s (i := .iconst 1) (n := 1) (pc' := 58) (st' := [dz_I 1, .ref 114]) rfl rfl ?_
        refine wp_s (i := .goto 25) (n := 3) (pc' := 83) (st' := [dz_I 1, .ref 114]) rfl rfl ?_
        replace H := dz_sm H
        exact H
      · replace H := dz_if c22 H
        refine wp_s (i := .iload 4) (n := 2) (pc' := 50) (st' := [dz_I q10.1, .ref 114]) rfl rfl ?_
        refine wp_s (i := .aload_n 0) (n := 1) (pc' := 51) (st' := [.ref 114, dz_I q10.1, .ref 114]) rfl rfl ?_
        refine wq_gi (idx := 262) (pc' := 54) rfl rfl ho_M rfl rfl ?_
        refine wq_ic (p := dz_c (q10.2 114 39 0) ≤ dz_c q10.1) (tt := 61) (pc' := 57) rfl rfl (cq_ge rfl rfl) rfl (fun c23 => ?_) (fun c23 => ?_)
        · replace H := dz_it c23 H
          refine wp_s (i := .iload 4) (n := 2) (pc' := 63) (st' := [dz_I q10.1, .ref 114]) rfl rfl ?_
          refine wp_s (i := .aload_n 0) (n := 1) (pc' := 64) (st' := [.ref 114, dz_I q10.1, .ref 114]) rfl rfl ?_
          refine wq_gi (idx := 262) (pc' := 67) rfl rfl ho_M rfl rfl ?_
          refine wq_ic (p := dz_c q10.1 ≠ dz_c (q10.2 114 39 0)) (tt := 79) (pc' := 70) rfl rfl (cq_ne rfl rfl) rfl (fun c24 => ?_) (fun c24 => ?_)
          · replace H := dz_it c24 H
            refine wp_s (i := .aload_n 0) (n := 1) (pc' := 80) (st' := [.ref 114, .ref 114]) rfl rfl ?_
            refine wq_gi (idx := 265) (pc' := 83) rfl rfl ho_M rfl rfl ?_
            replace H := dz_sm H
            exact H
          · replace H := dz_if c24 H
            refine wp_s (i := .aload_n 0) (n := 1) (pc' := 71) (st' := [.ref 114, .ref 114]) rfl rfl ?_
            refine wq_gi (idx := 265) (pc' := 74) rfl rfl ho_M rfl rfl ?_
            refine wp_s (i := .iconst 1) (n := 1) (pc' := 75) (st' := [dz_I 1, dz_I (q10.2 114 40 0), .ref 114]) rfl rfl ?_
            refine wq_2 (i := .iadd) (z := (q10.2 114 40 0) + 1) (pc' := 76) rfl rfl (op_add _ _) rfl ?_
            refine wp_s (i := .goto 7) (n := 3) (pc' := 83) (st' := [dz_I ((q10.2 114 40 0) + 1), .ref 114]) rfl rfl ?_
            replace H := dz_sm H
            exact H
        · replace H := dz_if c23 H
          refine wp_s (i := .iconst 1) (n := 1) (pc' := 58) (st' := [dz_I 1, .ref 114]) rfl rfl ?_
          refine wp_s (i := .goto 25) (n := 3) (pc' := 83) (st' := [dz_I 1, .ref 114]) rfl rfl ?_
          replace H := dz_sm H
          exact H
-- 172
def jf_M_best (a1 : Int) (a2 : Int) (Z : dz_Z) : Option (Int × dz_Z) := Option.bind (jf_M_isShower a1 Z) fun q1 => if q1 = false then (some ((-1), Z)) else (if 0 ≤ dz_c a2 ∧ dz_c a2 ≤ 2 then (Option.bind (jf_M_layBest a1 Z) fun q4 => if dz_c a2 ≠ 0 then (if dz_c a2 ≠ 1 then (some (q4 114 40 0, q4)) else (some (q4 114 39 0, q4))) else (some (q4 114 38 0, q4))) else (some ((-1), Z)))
set_option maxRecDepth 20000 in
theorem jw_M_best {X : Option (List Int32)} {D : Nat} {Q : Option Value → mm_H → Prop} (a1 : Int) (a2 : Int) (Z : dz_Z) (H : dz_p (jf_M_best a1 a2 Z) (fun q => Q (some (dz_I q.1)) (hz_0 q.2))) : mm_Wp X (D + 7) mm_r172 0 [some (.ref 114), some (dz_I a1), some (dz_I a2)] [] (hz_0 Z) Q := by
  unfold jf_M_best at H
  refine wp_s (i := .aload_n 0) (n := 1) (pc' := 1) (st' := [.ref 114]) rfl rfl ?_
  refine wp_s (i := .iload_n 1) (n := 1) (pc' := 2) (st' := [dz_I a1, .ref 114]) rfl rfl ?_
  refine wq_cv (Dq := (D + 6)) (r' := mm_r140) (as0 := [dz_I a1]) (rest := []) (ls' := [some (.ref 114), some (dz_I a1)]) (pc' := 5) rfl rfl rfl rfl ho_M rfl rfl rfl ?_
  refine jw_M_isShower (X := X) (D := D + 5) a1 Z (dz_pm (dz_bi H) (fun q1 H => ?_))
  show mm_Wp X (D + 7) mm_r172 5 [some (.ref 114), some (dz_I a1), some (dz_I a2)] [dz_B q1] (hz_0 Z) Q
  refine wq_if (p := q1 = false) (tt := 20) (pc' := 8) rfl rfl (cb_eq) rfl (fun c2 => ?_) (fun c2 => ?_)
  · replace H := dz_it c2 H
    refine wp_s (i := .iconst (-1)) (n := 1) (pc' := 21) (st' := [dz_I (-1)]) rfl rfl ?_
    refine wq_ri rfl rfl ?_
    replace H := dz_sm H
    exact H
  · replace H := dz_if c2 H
    refine wp_s (i := .iload_n 2) (n := 1) (pc' := 9) (st' := [dz_I a2]) rfl rfl ?_
    refine wq_3 (i := .i2l) (v' := dz_J (dz_c a2)) (pc' := 10) rfl rfl (oq_i2l' rfl) rfl ?_
    refine wp_s (i := .lconst 0) (n := 1) (pc' := 11) (st' := [dz_J 0, dz_J (dz_c a2)]) rfl rfl ?_
    refine wp_s (i := .ldc2_w 198) (n := 3) (pc' := 14) (st' := [dz_J 2, dz_J 0, dz_J (dz_c a2)]) rfl rfl ?_
    refine wq_cs (Dq := (D + 6)) (r' := mm_r120) (as0 := [dz_J (dz_c a2), dz_J 0, dz_J 2]) (rest := []) (ls' := [some (dz_J (dz_c a2)), none, some (dz_J 0), none, some (dz_J 2), none]) (pc' := 17) rfl rfl (by decide) rfl rfl rfl rfl rfl ?_
    refine jw_in (a' := dz_c a2) (b' := 0) (c' := 2) (dz_lc _) (by decide) (by decide) ?_
    show mm_Wp X (D + 7) mm_r172 17 [some (.ref 114), some (dz_I a1), some (dz_I a2)] [dz_B (decide (0 ≤ dz_c a2 ∧ dz_c a2 ≤ 2))] (hz_0 Z) Q
    refine wq_if (p := 0 ≤ dz_c a2 ∧ dz_c a2 ≤ 2) (tt := 22) (pc' := 20) rfl rfl (cd_ne) rfl (fun c3 => ?_) (fun c3 => ?_)
    · replace H := dz_it c3 H
      refine wp_s (i := .aload_n 0) (n := 1) (pc' := 23) (st' := [.ref 114]) rfl rfl ?_
      refine wp_s (i := .iload_n 1) (n := 1) (pc' := 24) (st' := [dz_I a1, .ref 114]) rfl rfl ?_
      refine wq_cv (Dq := (D + 6)) (r' := mm_r171) (as0 := [dz_I a1]) (rest := []) (ls' := [some (.ref 114), some (dz_I a1), none, none, none]) (pc' := 27) rfl rfl rfl rfl ho_M rfl rfl rfl ?_
      refine jw_M_layBest (X := X) (D := D + 0) a1 Z (dz_pm (dz_bi H) (fun q4 H => ?_))
      show mm_Wp X (D + 7) mm_r172 27 [some (.ref 114), some (dz_I a1), some (dz_I a2)] [] (hz_0 q4) Q
      refine wp_s (i := .iload_n 2) (n := 1) (pc' := 28) (st' := [dz_I a2]) rfl rfl ?_
      refine wq_if (p := dz_c a2 ≠ 0) (tt := 38) (pc' := 31) rfl rfl (cz_ne rfl) rfl (fun c5 => ?_) (fun c5 => ?_)
      · replace H := dz_it c5 H
        refine wp_s (i := .iload_n 2) (n := 1) (pc' := 39) (st' := [dz_I a2]) rfl rfl ?_
        refine wp_s (i := .iconst 1) (n := 1) (pc' := 40) (st' := [dz_I 1, dz_I a2]) rfl rfl ?_
        refine wq_ic (p := dz_c a2 ≠ 1) (tt := 50) (pc' := 43) rfl rfl (cq_ne rfl dk_1) rfl (fun c6 => ?_) (fun c6 => ?_)
        · replace H := dz_it c6 H
          refine wp_s (i := .aload_n 0) (n := 1) (pc' := 51) (st' := [.ref 114]) rfl rfl ?_
          refine wq_gi (idx := 265) (pc' := 54) rfl rfl ho_M rfl rfl ?_
          refine wq_ri rfl rfl ?_
          replace H := dz_sm H
          exact H
        · replace H := dz_if c6 H
          refine wp_s (i := .aload_n 0) (n := 1) (pc' := 44) (st' := [.ref 114]) rfl rfl ?_
          refine wq_gi (idx := 262) (pc' := 47) rfl rfl ho_M rfl rfl ?_
          refine wp_s (i := .goto 7) (n := 3) (pc' := 54) (st' := [dz_I (q4 114 39 0)]) rfl rfl ?_
          refine wq_ri rfl rfl ?_
          replace H := dz_sm H
          exact H
      · replace H := dz_if c5 H
        refine wp_s (i := .aload_n 0) (n := 1) (pc' := 32) (st' := [.ref 114]) rfl rfl ?_
        refine wq_gi (idx := 259) (pc' := 35) rfl rfl ho_M rfl rfl ?_
        refine wp_s (i := .goto 19) (n := 3) (pc' := 54) (st' := [dz_I (q4 114 38 0)]) rfl rfl ?_
        refine wq_ri rfl rfl ?_
        replace H := dz_sm H
        exact H
    · replace H := dz_if c3 H
      refine wp_s (i := .iconst (-1)) (n := 1) (pc' := 21) (st' := [dz_I (-1)]) rfl rfl ?_
      refine wq_ri rfl rfl ?_
      replace H := dz_sm H
      exact H
-- 173
def jf_M_unlikePegs (a1 : Int) (a2 : Int) (Z : dz_Z) : Option (Int) := dz_lp (fun (s1 : Int × Int × Int × Int) => if dz_c (Z 114 2 0) ≤ dz_c s1.2.2.2 then (some (Sum.inr s1.1)) else (Option.bind (α := Int) (if dz_c (Int.tmod (dz_c s1.2.1) 3) ≠ dz_c (Int.tmod (dz_c s1.2.2.1) 3) then (some 1) else (some 0)) (fun (q4 : Int) => some (Sum.inl (s1.1 + q4, Int.tdiv (dz_c s1.2.1) 3, Int.tdiv (dz_c s1.2.2.1) 3, s1.2.2.2 + 1))))) 5000 (0, a1, a2, 0)
set_option maxRecDepth 20000 in
theorem jw_M_unlikePegs {X : Option (List Int32)} {D : Nat} {Q : Option Value → mm_H → Prop} (a1 : Int) (a2 : Int) (Z : dz_Z) (H : dz_p (jf_M_unlikePegs a1 a2 Z) (fun q => Q (some (dz_I q)) (hz_0 Z))) : mm_Wp X D mm_r173 0 [some (.ref 114), some (dz_I a1), some (dz_I a2), none, none, none, none] [] (hz_0 Z) Q := by
  unfold jf_M_unlikePegs at H
  refine wp_s (i := .iconst 0) (n := 1) (pc' := 1) (st' := [dz_I 0]) rfl rfl ?_
  refine wq_st (k := 3) (i := .istore_n 3) (n := 1) (ls' := [some (.ref 114), some (dz_I a1), some (dz_I a2), some (dz_I 0), none, none, none]) (pc' := 2) rfl rfl rfl rfl rfl ?_
  refine wp_s (i := .iload_n 1) (n := 1) (pc' := 3) (st' := [dz_I a1]) rfl rfl ?_
  refine wq_st (k := 4) (i := .istore 4) (n := 2) (ls' := [some (.ref 114), some (dz_I a1), some (dz_I a2), some (dz_I 0), some (dz_I a1), none, none]) (pc' := 5) rfl rfl rfl rfl rfl ?_
  refine wp_s (i := .iload_n 2) (n := 1) (pc' := 6) (st' := [dz_I a2]) rfl rfl ?_
  refine wq_st (k := 5) (i := .istore 5) (n := 2) (ls' := [some (.ref 114), some (dz_I a1), some (dz_I a2), some (dz_I 0), some (dz_I a1), some (dz_I a2), none]) (pc' := 8) rfl rfl rfl rfl rfl ?_
  refine wp_s (i := .iconst 0) (n := 1) (pc' := 9) (st' := [dz_I 0]) rfl rfl ?_
  refine wq_st (k := 6) (i := .istore 6) (n := 2) (ls' := [some (.ref 114), some (dz_I a1), some (dz_I a2), some (dz_I 0), some (dz_I a1), some (dz_I a2), some (dz_I 0)]) (pc' := 11) rfl rfl rfl rfl rfl ?_
  refine dz_lpi (P := fun (s1 : Int × Int × Int × Int) => mm_Wp X D mm_r173 11 [some (.ref 114), some (dz_I a1), some (dz_I a2), some (dz_I s1.1), some (dz_I s1.2.1), some (dz_I s1.2.2.1), some (dz_I s1.2.2.2)] [] (hz_0 Z) Q) (fun s1 H => ?_) 5000 (0, a1, a2, 0) H
  refine wp_s (i := .iload 6) (n := 2) (pc' := 13) (st' := [dz_I s1.2.2.2]) rfl rfl ?_
  refine wp_s (i := .aload_n 0) (n := 1) (pc' := 14) (st' := [.ref 114, dz_I s1.2.2.2]) rfl rfl ?_
  refine wq_gi (idx := 167) (pc' := 17) rfl rfl ho_M rfl rfl ?_
  refine wq_ic (p := dz_c (Z 114 2 0) ≤ dz_c s1.2.2.2) (tt := 57) (pc' := 20) rfl rfl (cq_ge rfl rfl) rfl (fun c2 => ?_) (fun c2 => ?_)
  · replace H := dz_it c2 H
    refine wp_s (i := .iload_n 3) (n := 1) (pc' := 58) (st' := [dz_I s1.1]) rfl rfl ?_
    refine wq_ri rfl rfl ?_
    replace H := dz_out H
    replace H := dz_sm H
    exact H
  · replace H := dz_if c2 H
    refine wp_s (i := .iload_n 3) (n := 1) (pc' := 21) (st' := [dz_I s1.1]) rfl rfl ?_
    refine wp_s (i := .iload 4) (n := 2) (pc' := 23) (st' := [dz_I s1.2.1, dz_I s1.1]) rfl rfl ?_
    refine wp_s (i := .iconst 3) (n := 1) (pc' := 24) (st' := [dz_I 3, dz_I s1.2.1, dz_I s1.1]) rfl rfl ?_
    refine wq_2 (i := .irem) (z := Int.tmod (dz_c s1.2.1) 3) (pc' := 25) rfl rfl (op_rem rfl dk_3 (by decide)) rfl ?_
    refine wp_s (i := .iload 5) (n := 2) (pc' := 27) (st' := [dz_I s1.2.2.1, dz_I (Int.tmod (dz_c s1.2.1) 3), dz_I s1.1]) rfl rfl ?_
    refine wp_s (i := .iconst 3) (n := 1) (pc' := 28) (st' := [dz_I 3, dz_I s1.2.2.1, dz_I (Int.tmod (dz_c s1.2.1) 3), dz_I s1.1]) rfl rfl ?_
    refine wq_2 (i := .irem) (z := Int.tmod (dz_c s1.2.2.1) 3) (pc' := 29) rfl rfl (op_rem rfl dk_3 (by decide)) rfl ?_
    refine dz_jn (P := fun (q4 : Int) => mm_Wp X D mm_r173 37 [some (.ref 114), some (dz_I a1), some (dz_I a2), some (dz_I s1.1), some (dz_I s1.2.1), some (dz_I s1.2.2.1), some (dz_I s1.2.2.2)] [dz_I q4, dz_I s1.1] (hz_0 Z) Q) (dz_bi H) (fun q4 H => ?_) (fun H => ?_)
    · skip
      refine wq_2 (i := .iadd) (z := s1.1 + q4) (pc' := 38) rfl rfl (op_add _ _) rfl ?_
      refine wq_st (k := 3) (i := .istore_n 3) (n := 1) (ls' := [some (.ref 114), some (dz_I a1), some (dz_I a2), some (dz_I (s1.1 + q4)), some (dz_I s1.2.1), some (dz_I s1.2.2.1), some (dz_I s1.2.2.2)]) (pc' := 39) rfl rfl rfl rfl rfl ?_
      refine wp_s (i := .iload 4) (n := 2) (pc' := 41) (st' := [dz_I s1.2.1]) rfl rfl ?_
      refine wp_s (i := .iconst 3) (n := 1) (pc' := 42) (st' := [dz_I 3, dz_I s1.2.1]) rfl rfl ?_
      refine wq_2 (i := .idiv) (z := Int.tdiv (dz_c s1.2.1) 3) (pc' := 43) rfl rfl (op_div rfl dk_3 (by decide)) rfl ?_
      refine wq_st (k := 4) (i := .istore 4) (n := 2) (ls' := [some (.ref 114), some (dz_I a1), some (dz_I a2), some (dz_I (s1.1 + q4)), some (dz_I (Int.tdiv (dz_c s1.2.1) 3)), some (dz_I s1.2.2.1), some (dz_I s1.2.2.2)]) (pc' := 45) rfl rfl rfl rfl rfl ?_
      refine wp_s (i := .iload 5) (n := 2) (pc' := 47) (st' := [dz_I s1.2.2.1]) rfl rfl ?_
      refine wp_s (i := .iconst 3) (n := 1) (pc' := 48) (st' := [dz_I 3, dz_I s1.2.2.1]) rfl rfl ?_
      refine wq_2 (i := .idiv) (z := Int.tdiv (dz_c s1.2.2.1) 3) (pc' := 49) rfl rfl (op_div rfl dk_3 (by decide)) rfl ?_
      refine wq_st (k := 5) (i := .istore 5) (n := 2) (ls' := [some (.ref 114), some (dz_I a1), some (dz_I a2), some (dz_I (s1.1 + q4)), some (dz_I (Int.tdiv (dz_c s1.2.1) 3)), some (dz_I (Int.tdiv (dz_c s1.2.2.1) 3)), some (dz_I s1.2.2.2)]) (pc' := 51) rfl rfl rfl rfl rfl ?_
      refine wq_inc (k := 6) (d := 1) (x := s1.2.2.2) (ls' := [some (.ref 114), some (dz_I a1), some (dz_I a2), some (dz_I (s1.1 + q4)), some (dz_I (Int.tdiv (dz_c s1.2.1) 3)), some (dz_I (Int.tdiv (dz_c s1.2.2.1) 3)), some (dz_I (s1.2.2.2 + 1))]) (pc' := 54) rfl rfl rfl rfl ?_
      refine wp_s (i := .goto (-43)) (n := 3) (pc' := 11) (st' := []) rfl rfl ?_
      replace H := dz_back H
      exact H
    · skip
      refine wq_ic (p := dz_c (Int.tmod (dz_c s1.2.1) 3) ≠ dz_c (Int.tmod (dz_c s1.2.2.1) 3)) (tt := 36) (pc' := 32) rfl rfl (cq_ne rfl rfl) rfl (fun c5 => ?_) (fun c5 => ?_)
      · replace H := dz_it c5 H
        refine wp_s (i := .iconst 1) (n := 1) (pc' := 37) (st' := [dz_I 1, dz_I s1.1]) rfl rfl ?_
        replace H := dz_sm H
        exact H
      · replace H := dz_if c5 H
        refine wp_s (i := .iconst 0) (n := 1) (pc' := 33) (st' := [dz_I 0, dz_I s1.1]) rfl rfl ?_
        refine wp_s (i := .goto 4) (n := 3) (pc' := 37) (st' := [dz_I 0, dz_I s1.1]) rfl rfl ?_
        replace H := dz_sm H
        exact H
-- 174
def jf_M_fewest (a1 : Int) (a2 : Int) (Z : dz_Z) : Option (Int × dz_Z) := Option.bind (jf_M_isShower a1 Z) fun q1 => if q1 = false then (some ((-1), Z)) else (if 0 ≤ dz_c a2 ∧ dz_c a2 ≤ 1 then (Option.bind (jf_M_layBest a1 Z) fun q4 => Option.bind (jf_M_settingsNow q4) fun q5 => dz_lp (fun (s6 : Int × Int × Int × dz_Z) => Option.bind (jf_M_settingMany s6.2.2.2) fun q8 => if dz_c q8 ≤ dz_c s6.2.2.1 then (Option.bind (jf_M_sets q5 s6.2.2.2) fun q10 => if dz_c a2 ≠ 0 then (some (Sum.inr (s6.2.1, q10))) else (some (Sum.inr (s6.1, q10)))) else (Option.bind (jf_M_sets s6.2.2.1 s6.2.2.2) fun q12 => Option.bind (jf_M_unlikePegs s6.2.2.1 q5 q12) fun q13 => if dz_c s6.1 = (-4) then (Option.bind (jf_M_farOf a1 q12) fun q15 => if dz_c q15.1 ≠ dz_c (q15.2 114 39 0) then (some (Sum.inl (s6.1, s6.2.1, s6.2.2.1 + 1, q15.2))) else (some (Sum.inl (s6.2.2.1, q13, s6.2.2.1 + 1, q15.2)))) else (if dz_c s6.2.1 ≤ dz_c q13 then (some (Sum.inl (s6.1, s6.2.1, s6.2.2.1 + 1, q12))) else (Option.bind (jf_M_farOf a1 q12) fun q18 => if dz_c q18.1 ≠ dz_c (q18.2 114 39 0) then (some (Sum.inl (s6.1, s6.2.1, s6.2.2.1 + 1, q18.2))) else (some (Sum.inl (s6.2.2.1, q13, s6.2.2.1 + 1, q18.2))))))) 5000 ((-4), 0, 0, q4)) else (some ((-1), Z)))
set_option maxRecDepth 20000 in
theorem jw_M_fewest {X : Option (List Int32)} {D : Nat} {Q : Option Value → mm_H → Prop} (a1 : Int) (a2 : Int) (Z : dz_Z) (H : dz_p (jf_M_fewest a1 a2 Z) (fun q => Q (some (dz_I q.1)) (hz_0 q.2))) : mm_Wp X (D + 7) mm_r174 0 [some (.ref 114), some (dz_I a1), some (dz_I a2), none, none, none, none, none] [] (hz_0 Z) Q := by
  unfold jf_M_fewest at H
  refine wp_s (i := .aload_n 0) (n := 1) (pc' := 1) (st' := [.ref 114]) rfl rfl ?_
  refine wp_s (i := .iload_n 1) (n := 1) (pc' := 2) (st' := [dz_I a1, .ref 114]) rfl rfl ?_
  refine wq_cv (Dq := (D + 6)) (r' := mm_r140) (as0 := [dz_I a1]) (rest := []) (ls' := [some (.ref 114), some (dz_I a1)]) (pc' := 5) rfl rfl rfl rfl ho_M rfl rfl rfl ?_
  refine jw_M_isShower (X := X) (D := D + 5) a1 Z (dz_pm (dz_bi H) (fun q1 H => ?_))
  show mm_Wp X (D + 7) mm_r174 5 [some (.ref 114), some (dz_I a1), some (dz_I a2), none, none, none, none, none] [dz_B q1] (hz_0 Z) Q
  refine wq_if (p := q1 = false) (tt := 18) (pc' := 8) rfl rfl (cb_eq) rfl (fun c2 => ?_) (fun c2 => ?_)
  · replace H := dz_it c2 H
    refine wp_s (i := .iconst (-1)) (n := 1) (pc' := 19) (st' := [dz_I (-1)]) rfl rfl ?_
    refine wq_ri rfl rfl ?_
    replace H := dz_sm H
    exact H
  · replace H := dz_if c2 H
    refine wp_s (i := .iload_n 2) (n := 1) (pc' := 9) (st' := [dz_I a2]) rfl rfl ?_
    refine wq_3 (i := .i2l) (v' := dz_J (dz_c a2)) (pc' := 10) rfl rfl (oq_i2l' rfl) rfl ?_
    refine wp_s (i := .lconst 0) (n := 1) (pc' := 11) (st' := [dz_J 0, dz_J (dz_c a2)]) rfl rfl ?_
    refine wp_s (i := .lconst 1) (n := 1) (pc' := 12) (st' := [dz_J 1, dz_J 0, dz_J (dz_c a2)]) rfl rfl ?_
    refine wq_cs (Dq := (D + 6)) (r' := mm_r120) (as0 := [dz_J (dz_c a2), dz_J 0, dz_J 1]) (rest := []) (ls' := [some (dz_J (dz_c a2)), none, some (dz_J 0), none, some (dz_J 1), none]) (pc' := 15) rfl rfl (by decide) rfl rfl rfl rfl rfl ?_
    refine jw_in (a' := dz_c a2) (b' := 0) (c' := 1) (dz_lc _) (by decide) (by decide) ?_
    show mm_Wp X (D + 7) mm_r174 15 [some (.ref 114), some (dz_I a1), some (dz_I a2), none, none, none, none, none] [dz_B (decide (0 ≤ dz_c a2 ∧ dz_c a2 ≤ 1))] (hz_0 Z) Q
    refine wq_if (p := 0 ≤ dz_c a2 ∧ dz_c a2 ≤ 1) (tt := 20) (pc' := 18) rfl rfl (cd_ne) rfl (fun c3 => ?_) (fun c3 => ?_)
    · replace H := dz_it c3 H
      refine wp_s (i := .aload_n 0) (n := 1) (pc' := 21) (st' := [.ref 114]) rfl rfl ?_
      refine wp_s (i := .iload_n 1) (n := 1) (pc' := 22) (st' := [dz_I a1, .ref 114]) rfl rfl ?_
      refine wq_cv (Dq := (D + 6)) (r' := mm_r171) (as0 := [dz_I a1]) (rest := []) (ls' := [some (.ref 114), some (dz_I a1), none, none, none]) (pc' := 25) rfl rfl rfl rfl ho_M rfl rfl rfl ?_
      refine jw_M_layBest (X := X) (D := D + 0) a1 Z (dz_pm (dz_bi H) (fun q4 H => ?_))
      show mm_Wp X (D + 7) mm_r174 25 [some (.ref 114), some (dz_I a1), some (dz_I a2), none, none, none, none, none] [] (hz_0 q4) Q
      refine wp_s (i := .aload_n 0) (n := 1) (pc' := 26) (st' := [.ref 114]) rfl rfl ?_
      refine wq_cv (Dq := (D + 6)) (r' := mm_r147) (as0 := []) (rest := []) (ls' := [some (.ref 114), none, none]) (pc' := 29) rfl rfl rfl rfl ho_M rfl rfl rfl ?_
      refine jw_M_settingsNow (X := X) (D := D + 6) q4 (dz_pm (dz_bi H) (fun q5 H => ?_))
      show mm_Wp X (D + 7) mm_r174 29 [some (.ref 114), some (dz_I a1), some (dz_I a2), none, none, none, none, none] [dz_I q5] (hz_0 q4) Q
      refine wq_st (k := 3) (i := .istore_n 3) (n := 1) (ls' := [some (.ref 114), some (dz_I a1), some (dz_I a2), some (dz_I q5), none, none, none, none]) (pc' := 30) rfl rfl rfl rfl rfl ?_
      refine wp_s (i := .bipush (-4)) (n := 2) (pc' := 32) (st' := [dz_I (-4)]) rfl rfl ?_
      refine wq_st (k := 4) (i := .istore 4) (n := 2) (ls' := [some (.ref 114), some (dz_I a1), some (dz_I a2), some (dz_I q5), some (dz_I (-4)), none, none, none]) (pc' := 34) rfl rfl rfl rfl rfl ?_
      refine wp_s (i := .iconst 0) (n := 1) (pc' := 35) (st' := [dz_I 0]) rfl rfl ?_
      refine wq_st (k := 5) (i := .istore 5) (n := 2) (ls' := [some (.ref 114), some (dz_I a1), some (dz_I a2), some (dz_I q5), some (dz_I (-4)), some (dz_I 0), none, none]) (pc' := 37) rfl rfl rfl rfl rfl ?_
      refine wp_s (i := .iconst 0) (n := 1) (pc' := 38) (st' := [dz_I 0]) rfl rfl ?_
      refine wq_st (k := 6) (i := .istore 6) (n := 2) (ls' := [some (.ref 114), some (dz_I a1), some (dz_I a2), some (dz_I q5), some (dz_I (-4)), some (dz_I 0), some (dz_I 0), none]) (pc' := 40) rfl rfl rfl rfl rfl ?_
      refine dz_lpi (P := fun (s6 : Int × Int × Int × dz_Z) => ∀ (u7 : Option Int32), mm_Wp X (D + 7) mm_r174 40 [some (.ref 114), some (dz_I a1), some (dz_I a2), some (dz_I q5), some (dz_I s6.1), some (dz_I s6.2.1), some (dz_I s6.2.2.1), Option.map Value.int u7] [] (hz_0 s6.2.2.2) Q) (fun s6 H => ?_) 5000 ((-4), 0, 0, q4) H none
      intro u7
      refine wp_s (i := .iload 6) (n := 2) (pc' := 42) (st' := [dz_I s6.2.2.1]) rfl rfl ?_
      refine wp_s (i := .aload_n 0) (n := 1) (pc' := 43) (st' := [.ref 114, dz_I s6.2.2.1]) rfl rfl ?_
      refine wq_cv (Dq := (D + 6)) (r' := mm_r146) (as0 := []) (rest := [dz_I s6.2.2.1]) (ls' := [some (.ref 114), none, none]) (pc' := 46) rfl rfl rfl rfl ho_M rfl rfl rfl ?_
      refine jw_M_settingMany (X := X) (D := D + 6) s6.2.2.2 (dz_pm (dz_bi H) (fun q8 H => ?_))
      show mm_Wp X (D + 7) mm_r174 46 [some (.ref 114), some (dz_I a1), some (dz_I a2), some (dz_I q5), some (dz_I s6.1), some (dz_I s6.2.1), some (dz_I s6.2.2.1), Option.map Value.int u7] [dz_I q8, dz_I s6.2.2.1] (hz_0 s6.2.2.2) Q
      refine wq_ic (p := dz_c q8 ≤ dz_c s6.2.2.1) (tt := 104) (pc' := 49) rfl rfl (cq_ge rfl rfl) rfl (fun c9 => ?_) (fun c9 => ?_)
      · replace H := dz_it c9 H
        refine wp_s (i := .aload_n 0) (n := 1) (pc' := 105) (st' := [.ref 114]) rfl rfl ?_
        refine wp_s (i := .iload_n 3) (n := 1) (pc' := 106) (st' := [dz_I q5, .ref 114]) rfl rfl ?_
        refine wq_cv (Dq := (D + 6)) (r' := mm_r148) (as0 := [dz_I q5]) (rest := []) (ls' := [some (.ref 114), some (dz_I q5), none, none]) (pc' := 109) rfl rfl rfl rfl ho_M rfl rfl rfl ?_
        refine jw_M_sets (X := X) (D := D + 6) q5 s6.2.2.2 (dz_pm (dz_bi H) (fun q10 H => ?_))
        show mm_Wp X (D + 7) mm_r174 109 [some (.ref 114), some (dz_I a1), some (dz_I a2), some (dz_I q5), some (dz_I s6.1), some (dz_I s6.2.1), some (dz_I s6.2.2.1), Option.map Value.int u7] [] (hz_0 q10) Q
        refine wp_s (i := .iload_n 2) (n := 1) (pc' := 110) (st' := [dz_I a2]) rfl rfl ?_
        refine wq_if (p := dz_c a2 ≠ 0) (tt := 118) (pc' := 113) rfl rfl (cz_ne rfl) rfl (fun c11 => ?_) (fun c11 => ?_)
        · replace H := dz_it c11 H
          refine wp_s (i := .iload 5) (n := 2) (pc' := 120) (st' := [dz_I s6.2.1]) rfl rfl ?_
          refine wq_ri rfl rfl ?_
          replace H := dz_out H
          replace H := dz_sm H
          exact H
        · replace H := dz_if c11 H
          refine wp_s (i := .iload 4) (n := 2) (pc' := 115) (st' := [dz_I s6.1]) rfl rfl ?_
          refine wp_s (i := .goto 5) (n := 3) (pc' := 120) (st' := [dz_I s6.1]) rfl rfl ?_
          refine wq_ri rfl rfl ?_
          replace H := dz_out H
          replace H := dz_sm H
          exact H
      · replace H := dz_if c9 H
        refine wp_s (i := .aload_n 0) (n := 1) (pc' := 50) (st' := [.ref 114]) rfl rfl ?_
        refine wp_s (i := .iload 6) (n := 2) (pc' := 52) (st' := [dz_I s6.2.2.1, .ref 114]) rfl rfl ?_
        refine wq_cv (Dq := (D + 6)) (r' := mm_r148) (as0 := [dz_I s6.2.2.1]) (rest := []) (ls' := [some (.ref 114), some (dz_I s6.2.2.1), none, none]) (pc' := 55) rfl rfl rfl rfl ho_M rfl rfl rfl ?_
        refine jw_M_sets (X := X) (D := D + 6) s6.2.2.1 s6.2.2.2 (dz_pm (dz_bi H) (fun q12 H => ?_))
        show mm_Wp X (D + 7) mm_r174 55 [some (.ref 114), some (dz_I a1), some (dz_I a2), some (dz_I q5), some (dz_I s6.1), some (dz_I s6.2.1), some (dz_I s6.2.2.1), Option.map Value.int u7] [] (hz_0 q12) Q
        refine wp_s (i := .aload_n 0) (n := 1) (pc' := 56) (st' := [.ref 114]) rfl rfl ?_
        refine wp_s (i := .iload 6) (n := 2) (pc' := 58) (st' := [dz_I s6.2.2.1, .ref 114]) rfl rfl ?_
        refine wp_s (i := .iload_n 3) (n := 1) (pc' := 59) (st' := [dz_I q5, dz_I s6.2.2.1, .ref 114]) rfl rfl ?_
        refine wq_cv (Dq := (D + 6)) (r' := mm_r173) (as0 := [dz_I s6.2.2.1, dz_I q5]) (rest := []) (ls' := [some (.ref 114), some (dz_I s6.2.2.1), some (dz_I q5), none, none, none, none]) (pc' := 62) rfl rfl rfl rfl ho_M rfl rfl rfl ?_
        refine jw_M_unlikePegs (X := X) (D := D + 6) s6.2.2.1 q5 q12 (dz_pm (dz_bi H) (fun q13 H => ?_))
        show mm_Wp X (D + 7) mm_r174 62 [some (.ref 114), some (dz_I a1), some (dz_I a2), some (dz_I q5), some (dz_I s6.1), some (dz_I s6.2.1), some (dz_I s6.2.2.1), Option.map Value.int u7] [dz_I q13] (hz_0 q12) Q
        refine wq_st (k := 7) (i := .istore 7) (n := 2) (ls' := [some (.ref 114), some (dz_I a1), some (dz_I a2), some (dz_I q5), some (dz_I s6.1), some (dz_I s6.2.1), some (dz_I s6.2.2.1), some (dz_I q13)]) (pc' := 64) rfl rfl rfl rfl rfl ?_
        refine wp_s (i := .iload 4) (n := 2) (pc' := 66) (st' := [dz_I s6.1]) rfl rfl ?_
        refine wp_s (i := .bipush (-4)) (n := 2) (pc' := 68) (st' := [dz_I (-4), dz_I s6.1]) rfl rfl ?_
        refine wq_ic (p := dz_c s6.1 = (-4)) (tt := 78) (pc' := 71) rfl rfl (cq_eq rfl dk_m4) rfl (fun c14 => ?_) (fun c14 => ?_)
        · replace H := dz_it c14 H
          refine wp_s (i := .aload_n 0) (n := 1) (pc' := 79) (st' := [.ref 114]) rfl rfl ?_
          refine wp_s (i := .iload_n 1) (n := 1) (pc' := 80) (st' := [dz_I a1, .ref 114]) rfl rfl ?_
          refine wq_cv (Dq := (D + 6)) (r' := mm_r169) (as0 := [dz_I a1]) (rest := []) (ls' := [some (.ref 114), some (dz_I a1), none, none, none, none]) (pc' := 83) rfl rfl rfl rfl ho_M rfl rfl rfl ?_
          refine jw_M_farOf (X := X) (D := D + 1) a1 q12 (dz_pm (dz_bi H) (fun q15 H => ?_))
          show mm_Wp X (D + 7) mm_r174 83 [some (.ref 114), some (dz_I a1), some (dz_I a2), some (dz_I q5), some (dz_I s6.1), some (dz_I s6.2.1), some (dz_I s6.2.2.1), some (dz_I q13)] [dz_I q15.1] (hz_0 q15.2) Q
          refine wp_s (i := .aload_n 0) (n := 1) (pc' := 84) (st' := [.ref 114, dz_I q15.1]) rfl rfl ?_
          refine wq_gi (idx := 262) (pc' := 87) rfl rfl ho_M rfl rfl ?_
          refine wq_ic (p := dz_c q15.1 ≠ dz_c (q15.2 114 39 0)) (tt := 98) (pc' := 90) rfl rfl (cq_ne rfl rfl) rfl (fun c16 => ?_) (fun c16 => ?_)
          · replace H := dz_it c16 H
            refine wq_inc (k := 6) (d := 1) (x := s6.2.2.1) (ls' := [some (.ref 114), some (dz_I a1), some (dz_I a2), some (dz_I q5), some (dz_I s6.1), some (dz_I s6.2.1), some (dz_I (s6.2.2.1 + 1)), some (dz_I q13)]) (pc' := 101) rfl rfl rfl rfl ?_
            refine wp_s (i := .goto (-61)) (n := 3) (pc' := 40) (st' := []) rfl rfl ?_
            replace H := dz_back H
            exact H (some (Int32.ofInt q13))
          · replace H := dz_if c16 H
            refine wp_s (i := .iload 6) (n := 2) (pc' := 92) (st' := [dz_I s6.2.2.1]) rfl rfl ?_
            refine wq_st (k := 4) (i := .istore 4) (n := 2) (ls' := [some (.ref 114), some (dz_I a1), some (dz_I a2), some (dz_I q5), some (dz_I s6.2.2.1), some (dz_I s6.2.1), some (dz_I s6.2.2.1), some (dz_I q13)]) (pc' := 94) rfl rfl rfl rfl rfl ?_
            refine wp_s (i := .iload 7) (n := 2) (pc' := 96) (st' := [dz_I q13]) rfl rfl ?_
            refine wq_st (k := 5) (i := .istore 5) (n := 2) (ls' := [some (.ref 114), some (dz_I a1), some (dz_I a2), some (dz_I q5), some (dz_I s6.2.2.1), some (dz_I q13), some (dz_I s6.2.2.1), some (dz_I q13)]) (pc' := 98) rfl rfl rfl rfl rfl ?_
            refine wq_inc (k := 6) (d := 1) (x := s6.2.2.1) (ls' := [some (.ref 114), some (dz_I a1), some (dz_I a2), some (dz_I q5), some (dz_I s6.2.2.1), some (dz_I q13), some (dz_I (s6.2.2.1 + 1)), some (dz_I q13)]) (pc' := 101) rfl rfl rfl rfl ?_
            refine wp_s (i := .goto (-61)) (n := 3) (pc' := 40) (st' := []) rfl rfl ?_
            replace H := dz_back H
            exact H (some (Int32.ofInt q13))
        · replace H := dz_if c14 H
          refine wp_s (i := .iload 7) (n := 2) (pc' := 73) (st' := [dz_I q13]) rfl rfl ?_
          refine wp_s (i := .iload 5) (n := 2) (pc' := 75) (st' := [dz_I s6.2.1, dz_I q13]) rfl rfl ?_
          refine wq_ic (p := dz_c s6.2.1 ≤ dz_c q13) (tt := 98) (pc' := 78) rfl rfl (cq_ge rfl rfl) rfl (fun c17 => ?_) (fun c17 => ?_)
          · replace H := dz_it c17 H
            refine wq_inc (k := 6) (d := 1) (x := s6.2.2.1) (ls' := [some (.ref 114), some (dz_I a1), some (dz_I a2), some (dz_I q5), some (dz_I s6.1), some (dz_I s6.2.1), some (dz_I (s6.2.2.1 + 1)), some (dz_I q13)]) (pc' := 101) rfl rfl rfl rfl ?_
            refine wp_s (i := .goto (-61)) (n := 3) (pc' := 40) (st' := []) rfl rfl ?_
            replace H := dz_back H
            exact H (some (Int32.ofInt q13))
          · replace H := dz_if c17 H
            refine wp_s (i := .aload_n 0) (n := 1) (pc' := 79) (st' := [.ref 114]) rfl rfl ?_
            refine wp_s (i := .iload_n 1) (n := 1) (pc' := 80) (st' := [dz_I a1, .ref 114]) rfl rfl ?_
            refine wq_cv (Dq := (D + 6)) (r' := mm_r169) (as0 := [dz_I a1]) (rest := []) (ls' := [some (.ref 114), some (dz_I a1), none, none, none, none]) (pc' := 83) rfl rfl rfl rfl ho_M rfl rfl rfl ?_
            refine jw_M_farOf (X := X) (D := D + 1) a1 q12 (dz_pm (dz_bi H) (fun q18 H => ?_))
            show mm_Wp X (D + 7) mm_r174 83 [some (.ref 114), some (dz_I a1), some (dz_I a2), some (dz_I q5), some (dz_I s6.1), some (dz_I s6.2.1), some (dz_I s6.2.2.1), some (dz_I q13)] [dz_I q18.1] (hz_0 q18.2) Q
            refine wp_s (i := .aload_n 0) (n := 1) (pc' := 84) (st' := [.ref 114, dz_I q18.1]) rfl rfl ?_
            refine wq_gi (idx := 262) (pc' := 87) rfl rfl ho_M rfl rfl ?_
            refine wq_ic (p := dz_c q18.1 ≠ dz_c (q18.2 114 39 0)) (tt := 98) (pc' := 90) rfl rfl (cq_ne rfl rfl) rfl (fun c19 => ?_) (fun c19 => ?_)
            · replace H := dz_it c19 H
              refine wq_inc (k := 6) (d := 1) (x := s6.2.2.1) (ls' := [some (.ref 114), some (dz_I a1), some (dz_I a2), some (dz_I q5), some (dz_I s6.1), some (dz_I s6.2.1), some (dz_I (s6.2.2.1 + 1)), some (dz_I q13)]) (pc' := 101) rfl rfl rfl rfl ?_
              refine wp_s (i := .goto (-61)) (n := 3) (pc' := 40) (st' := []) rfl rfl ?_
              replace H := dz_back H
              exact H (some (Int32.ofInt q13))
            · replace H := dz_if c19 H
              refine wp_s (i := .iload 6) (n := 2) (pc' := 92) (st' := [dz_I s6.2.2.1]) rfl rfl ?_
              refine wq_st (k := 4) (i := .istore 4) (n := 2) (ls' := [some (.ref 114), some (dz_I a1), some (dz_I a2), some (dz_I q5), some (dz_I s6.2.2.1), some (dz_I s6.2.1), some (dz_I s6.2.2.1), some (dz_I q13)]) (pc' := 94) rfl rfl rfl rfl rfl ?_
              refine wp_s (i := .iload 7) (n := 2) (pc' := 96) (st' := [dz_I q13]) rfl rfl ?_
              refine wq_st (k := 5) (i := .istore 5) (n := 2) (ls' := [some (.ref 114), some (dz_I a1), some (dz_I a2), some (dz_I q5), some (dz_I s6.2.2.1), some (dz_I q13), some (dz_I s6.2.2.1), some (dz_I q13)]) (pc' := 98) rfl rfl rfl rfl rfl ?_
              refine wq_inc (k := 6) (d := 1) (x := s6.2.2.1) (ls' := [some (.ref 114), some (dz_I a1), some (dz_I a2), some (dz_I q5), some (dz_I s6.2.2.1), some (dz_I q13), some (dz_I (s6.2.2.1 + 1)), some (dz_I q13)]) (pc' := 101) rfl rfl rfl rfl ?_
              refine wp_s (i := .goto (-61)) (n := 3) (pc' := 40) (st' := []) rfl rfl ?_
              replace H := dz_back H
              exact H (some (Int32.ofInt q13))
    · replace H := dz_if c3 H
      refine wp_s (i := .iconst (-1)) (n := 1) (pc' := 19) (st' := [dz_I (-1)]) rfl rfl ?_
      refine wq_ri rfl rfl ?_
      replace H := dz_sm H
      exact H
-- 175
def jf_M_all (a1 : Int) (Z : dz_Z) : Option (Int × dz_Z) := if 0 ≤ dz_c a1 ∧ dz_c a1 ≤ 1 then (if dz_c (Z 114 4 0) ≠ 0 then (Option.bind (jf_M_settingsNow Z) fun q3 => dz_lp (fun (s4 : Int × Int × Int × dz_Z) => Option.bind (jf_M_settingMany s4.2.2.2) fun q7 => if dz_c q7 ≤ dz_c s4.2.2.1 then (Option.bind (jf_M_sets q3 s4.2.2.2) fun q9 => if dz_c a1 ≠ 0 then (some (Sum.inr (s4.2.1, q9))) else (some (Sum.inr (s4.1, q9)))) else (Option.bind (jf_M_sets s4.2.2.1 s4.2.2.2) fun q11 => dz_lp (fun (s12 : Int × Int × dz_Z) => if dz_c (s12.2.2 114 4 0) ≤ dz_c s12.2.1 then (Option.bind (α := Int) (if dz_c s4.1 = (-4) then (some 1) else (if dz_c s4.2.1 ≤ dz_c s12.1 then (some 0) else (some 1))) (fun (q16 : Int) => Option.bind (α := Int) (if dz_c q16 = 0 then (some s4.1) else (some s4.2.2.1)) (fun (q18 : Int) => if dz_c q16 = 0 then (some (Sum.inr (Sum.inl (q18, s4.2.1, s4.2.2.1 + 1, s12.2.2)))) else (some (Sum.inr (Sum.inl (q18, s12.1, s4.2.2.1 + 1, s12.2.2))))))) else (Option.bind (jf_M_farOf s12.2.1 s12.2.2) fun q23 => some (Sum.inl (s12.1 + q23.1, s12.2.1 + 1, q23.2)))) 5000 (0, 0, q11))) 5000 ((-4), 0, 0, Z)) else (some ((-2), Z))) else (some ((-1), Z))
set_option maxRecDepth 20000 in
theorem jw_M_all {X : Option (List Int32)} {D : Nat} {Q : Option Value → mm_H → Prop} (a1 : Int) (Z : dz_Z) (H : dz_p (jf_M_all a1 Z) (fun q => Q (some (dz_I q.1)) (hz_0 q.2))) : mm_Wp X (D + 6) mm_r175 0 [some (.ref 114), some (dz_I a1), none, none, none, none, none, none] [] (hz_0 Z) Q := by
  unfold jf_M_all at H
  refine wp_s (i := .iload_n 1) (n := 1) (pc' := 1) (st' := [dz_I a1]) rfl rfl ?_
  refine wq_3 (i := .i2l) (v' := dz_J (dz_c a1)) (pc' := 2) rfl rfl (oq_i2l' rfl) rfl ?_
  refine wp_s (i := .lconst 0) (n := 1) (pc' := 3) (st' := [dz_J 0, dz_J (dz_c a1)]) rfl rfl ?_
  refine wp_s (i := .lconst 1) (n := 1) (pc' := 4) (st' := [dz_J 1, dz_J 0, dz_J (dz_c a1)]) rfl rfl ?_
  refine wq_cs (Dq := (D + 5)) (r' := mm_r120) (as0 := [dz_J (dz_c a1), dz_J 0, dz_J 1]) (rest := []) (ls' := [some (dz_J (dz_c a1)), none, some (dz_J 0), none, some (dz_J 1), none]) (pc' := 7) rfl rfl (by decide) rfl rfl rfl rfl rfl ?_
  refine jw_in (a' := dz_c a1) (b' := 0) (c' := 1) (dz_lc _) (by decide) (by decide) ?_
  show mm_Wp X (D + 6) mm_r175 7 [some (.ref 114), some (dz_I a1), none, none, none, none, none, none] [dz_B (decide (0 ≤ dz_c a1 ∧ dz_c a1 ≤ 1))] (hz_0 Z) Q
  refine wq_if (p := 0 ≤ dz_c a1 ∧ dz_c a1 ≤ 1) (tt := 12) (pc' := 10) rfl rfl (cd_ne) rfl (fun c1 => ?_) (fun c1 => ?_)
  · replace H := dz_it c1 H
    refine wp_s (i := .aload_n 0) (n := 1) (pc' := 13) (st' := [.ref 114]) rfl rfl ?_
    refine wq_gi (idx := 173) (pc' := 16) rfl rfl ho_M rfl rfl ?_
    refine wq_if (p := dz_c (Z 114 4 0) ≠ 0) (tt := 22) (pc' := 19) rfl rfl (cz_ne rfl) rfl (fun c2 => ?_) (fun c2 => ?_)
    · replace H := dz_it c2 H
      refine wp_s (i := .aload_n 0) (n := 1) (pc' := 23) (st' := [.ref 114]) rfl rfl ?_
      refine wq_cv (Dq := (D + 5)) (r' := mm_r147) (as0 := []) (rest := []) (ls' := [some (.ref 114), none, none]) (pc' := 26) rfl rfl rfl rfl ho_M rfl rfl rfl ?_
      refine jw_M_settingsNow (X := X) (D := D + 5) Z (dz_pm (dz_bi H) (fun q3 H => ?_))
      show mm_Wp X (D + 6) mm_r175 26 [some (.ref 114), some (dz_I a1), none, none, none, none, none, none] [dz_I q3] (hz_0 Z) Q
      refine wq_st (k := 2) (i := .istore_n 2) (n := 1) (ls' := [some (.ref 114), some (dz_I a1), some (dz_I q3), none, none, none, none, none]) (pc' := 27) rfl rfl rfl rfl rfl ?_
      refine wp_s (i := .bipush (-4)) (n := 2) (pc' := 29) (st' := [dz_I (-4)]) rfl rfl ?_
      refine wq_st (k := 3) (i := .istore_n 3) (n := 1) (ls' := [some (.ref 114), some (dz_I a1), some (dz_I q3), some (dz_I (-4)), none, none, none, none]) (pc' := 30) rfl rfl rfl rfl rfl ?_
      refine wp_s (i := .iconst 0) (n := 1) (pc' := 31) (st' := [dz_I 0]) rfl rfl ?_
      refine wq_st (k := 4) (i := .istore 4) (n := 2) (ls' := [some (.ref 114), some (dz_I a1), some (dz_I q3), some (dz_I (-4)), some (dz_I 0), none, none, none]) (pc' := 33) rfl rfl rfl rfl rfl ?_
      refine wp_s (i := .iconst 0) (n := 1) (pc' := 34) (st' := [dz_I 0]) rfl rfl ?_
      refine wq_st (k := 5) (i := .istore 5) (n := 2) (ls' := [some (.ref 114), some (dz_I a1), some (dz_I q3), some (dz_I (-4)), some (dz_I 0), some (dz_I 0), none, none]) (pc' := 36) rfl rfl rfl rfl rfl ?_
      refine dz_lpi (P := fun (s4 : Int × Int × Int × dz_Z) => ∀ (u5 u6 : Option Int32), mm_Wp X (D + 6) mm_r175 36 [some (.ref 114), some (dz_I a1), some (dz_I q3), some (dz_I s4.1), some (dz_I s4.2.1), some (dz_I s4.2.2.1), Option.map Value.int u5, Option.map Value.int u6] [] (hz_0 s4.2.2.2) Q) (fun s4 H => ?_) 5000 ((-4), 0, 0, Z) H none none
      intro u5 u6
      refine wp_s (i := .iload 5) (n := 2) (pc' := 38) (st' := [dz_I s4.2.2.1]) rfl rfl ?_
      refine wp_s (i := .aload_n 0) (n := 1) (pc' := 39) (st' := [.ref 114, dz_I s4.2.2.1]) rfl rfl ?_
      refine wq_cv (Dq := (D + 5)) (r' := mm_r146) (as0 := []) (rest := [dz_I s4.2.2.1]) (ls' := [some (.ref 114), none, none]) (pc' := 42) rfl rfl rfl rfl ho_M rfl rfl rfl ?_
      refine jw_M_settingMany (X := X) (D := D + 5) s4.2.2.2 (dz_pm (dz_bi H) (fun q7 H => ?_))
      show mm_Wp X (D + 6) mm_r175 42 [some (.ref 114), some (dz_I a1), some (dz_I q3), some (dz_I s4.1), some (dz_I s4.2.1), some (dz_I s4.2.2.1), Option.map Value.int u5, Option.map Value.int u6] [dz_I q7, dz_I s4.2.2.1] (hz_0 s4.2.2.2) Q
      refine wq_ic (p := dz_c q7 ≤ dz_c s4.2.2.1) (tt := 135) (pc' := 45) rfl rfl (cq_ge rfl rfl) rfl (fun c8 => ?_) (fun c8 => ?_)
      · replace H := dz_it c8 H
        refine wp_s (i := .aload_n 0) (n := 1) (pc' := 136) (st' := [.ref 114]) rfl rfl ?_
        refine wp_s (i := .iload_n 2) (n := 1) (pc' := 137) (st' := [dz_I q3, .ref 114]) rfl rfl ?_
        refine wq_cv (Dq := (D + 5)) (r' := mm_r148) (as0 := [dz_I q3]) (rest := []) (ls' := [some (.ref 114), some (dz_I q3), none, none]) (pc' := 140) rfl rfl rfl rfl ho_M rfl rfl rfl ?_
        refine jw_M_sets (X := X) (D := D + 5) q3 s4.2.2.2 (dz_pm (dz_bi H) (fun q9 H => ?_))
        show mm_Wp X (D + 6) mm_r175 140 [some (.ref 114), some (dz_I a1), some (dz_I q3), some (dz_I s4.1), some (dz_I s4.2.1), some (dz_I s4.2.2.1), Option.map Value.int u5, Option.map Value.int u6] [] (hz_0 q9) Q
        refine wp_s (i := .iload_n 1) (n := 1) (pc' := 141) (st' := [dz_I a1]) rfl rfl ?_
        refine wq_if (p := dz_c a1 ≠ 0) (tt := 148) (pc' := 144) rfl rfl (cz_ne rfl) rfl (fun c10 => ?_) (fun c10 => ?_)
        · replace H := dz_it c10 H
          refine wp_s (i := .iload 4) (n := 2) (pc' := 150) (st' := [dz_I s4.2.1]) rfl rfl ?_
          refine wq_ri rfl rfl ?_
          replace H := dz_out H
          replace H := dz_sm H
          exact H
        · replace H := dz_if c10 H
          refine wp_s (i := .iload_n 3) (n := 1) (pc' := 145) (st' := [dz_I s4.1]) rfl rfl ?_
          refine wp_s (i := .goto 5) (n := 3) (pc' := 150) (st' := [dz_I s4.1]) rfl rfl ?_
          refine wq_ri rfl rfl ?_
          replace H := dz_out H
          replace H := dz_sm H
          exact H
      · replace H := dz_if c8 H
        refine wp_s (i := .aload_n 0) (n := 1) (pc' := 46) (st' := [.ref 114]) rfl rfl ?_
        refine wp_s (i := .iload 5) (n := 2) (pc' := 48) (st' := [dz_I s4.2.2.1, .ref 114]) rfl rfl ?_
        refine wq_cv (Dq := (D + 5)) (r' := mm_r148) (as0 := [dz_I s4.2.2.1]) (rest := []) (ls' := [some (.ref 114), some (dz_I s4.2.2.1), none, none]) (pc' := 51) rfl rfl rfl rfl ho_M rfl rfl rfl ?_
        refine jw_M_sets (X := X) (D := D + 5) s4.2.2.1 s4.2.2.2 (dz_pm (dz_bi H) (fun q11 H => ?_))
        show mm_Wp X (D + 6) mm_r175 51 [some (.ref 114), some (dz_I a1), some (dz_I q3), some (dz_I s4.1), some (dz_I s4.2.1), some (dz_I s4.2.2.1), Option.map Value.int u5, Option.map Value.int u6] [] (hz_0 q11) Q
        refine wp_s (i := .iconst 0) (n := 1) (pc' := 52) (st' := [dz_I 0]) rfl rfl ?_
        refine wq_st (k := 6) (i := .istore 6) (n := 2) (ls' := [some (.ref 114), some (dz_I a1), some (dz_I q3), some (dz_I s4.1), some (dz_I s4.2.1), some (dz_I s4.2.2.1), some (dz_I 0), Option.map Value.int u6]) (pc' := 54) rfl rfl rfl rfl rfl ?_
        refine wp_s (i := .iconst 0) (n := 1) (pc' := 55) (st' := [dz_I 0]) rfl rfl ?_
        refine wq_st (k := 7) (i := .istore 7) (n := 2) (ls' := [some (.ref 114), some (dz_I a1), some (dz_I q3), some (dz_I s4.1), some (dz_I s4.2.1), some (dz_I s4.2.2.1), some (dz_I 0), some (dz_I 0)]) (pc' := 57) rfl rfl rfl rfl rfl ?_
        refine dz_lpi (P := fun (s12 : Int × Int × dz_Z) => mm_Wp X (D + 6) mm_r175 57 [some (.ref 114), some (dz_I a1), some (dz_I q3), some (dz_I s4.1), some (dz_I s4.2.1), some (dz_I s4.2.2.1), some (dz_I s12.1), some (dz_I s12.2.1)] [] (hz_0 s12.2.2) Q) (fun s12 H => ?_) 5000 (0, 0, q11) H
        refine wp_s (i := .iload 7) (n := 2) (pc' := 59) (st' := [dz_I s12.2.1]) rfl rfl ?_
        refine wp_s (i := .aload_n 0) (n := 1) (pc' := 60) (st' := [.ref 114, dz_I s12.2.1]) rfl rfl ?_
        refine wq_gi (idx := 173) (pc' := 63) rfl rfl ho_M rfl rfl ?_
        refine wq_ic (p := dz_c (s12.2.2 114 4 0) ≤ dz_c s12.2.1) (tt := 83) (pc' := 66) rfl rfl (cq_ge rfl rfl) rfl (fun c13 => ?_) (fun c13 => ?_)
        · replace H := dz_it c13 H
          refine wp_s (i := .iload_n 3) (n := 1) (pc' := 84) (st' := [dz_I s4.1]) rfl rfl ?_
          refine wp_s (i := .bipush (-4)) (n := 2) (pc' := 86) (st' := [dz_I (-4), dz_I s4.1]) rfl rfl ?_
          refine dz_jn (P := fun (q16 : Int) => mm_Wp X (D + 6) mm_r175 101 [some (.ref 114), some (dz_I a1), some (dz_I q3), some (dz_I s4.1), some (dz_I s4.2.1), some (dz_I s4.2.2.1), some (dz_I s12.1), some (dz_I s12.2.1)] [dz_I q16] (hz_0 s12.2.2) Q) (dz_bi H) (fun q16 H => ?_) (fun H => ?_)
          · skip
            refine wq_st (k := 7) (i := .istore 7) (n := 2) (ls' := [some (.ref 114), some (dz_I a1), some (dz_I q3), some (dz_I s4.1), some (dz_I s4.2.1), some (dz_I s4.2.2.1), some (dz_I s12.1), some (dz_I q16)]) (pc' := 103) rfl rfl rfl rfl rfl ?_
            refine wp_s (i := .iload 7) (n := 2) (pc' := 105) (st' := [dz_I q16]) rfl rfl ?_
            refine dz_jn (P := fun (q18 : Int) => mm_Wp X (D + 6) mm_r175 114 [some (.ref 114), some (dz_I a1), some (dz_I q3), some (dz_I s4.1), some (dz_I s4.2.1), some (dz_I s4.2.2.1), some (dz_I s12.1), some (dz_I q16)] [dz_I q18] (hz_0 s12.2.2) Q) (dz_bi H) (fun q18 H => ?_) (fun H => ?_)
            · skip
              refine wq_st (k := 3) (i := .istore_n 3) (n := 1) (ls' := [some (.ref 114), some (dz_I a1), some (dz_I q3), some (dz_I q18), some (dz_I s4.2.1), some (dz_I s4.2.2.1), some (dz_I s12.1), some (dz_I q16)]) (pc' := 115) rfl rfl rfl rfl rfl ?_
              refine wp_s (i := .iload 7) (n := 2) (pc' := 117) (st' := [dz_I q16]) rfl rfl ?_
              refine wq_if (p := dz_c q16 = 0) (tt := 125) (pc' := 120) rfl rfl (cz_eq rfl) rfl (fun c19 => ?_) (fun c19 => ?_)
              · replace H := dz_it c19 H
                refine wp_s (i := .iload 4) (n := 2) (pc' := 127) (st' := [dz_I s4.2.1]) rfl rfl ?_
                refine wq_st (k := 4) (i := .istore 4) (n := 2) (ls' := [some (.ref 114), some (dz_I a1), some (dz_I q3), some (dz_I q18), some (dz_I s4.2.1), some (dz_I s4.2.2.1), some (dz_I s12.1), some (dz_I q16)]) (pc' := 129) rfl rfl rfl rfl rfl ?_
                refine wq_inc (k := 5) (d := 1) (x := s4.2.2.1) (ls' := [some (.ref 114), some (dz_I a1), some (dz_I q3), some (dz_I q18), some (dz_I s4.2.1), some (dz_I (s4.2.2.1 + 1)), some (dz_I s12.1), some (dz_I q16)]) (pc' := 132) rfl rfl rfl rfl ?_
                refine wp_s (i := .goto (-96)) (n := 3) (pc' := 36) (st' := []) rfl rfl ?_
                replace H := dz_out H
                replace H := dz_back H
                exact H (some (Int32.ofInt s12.1)) (some (Int32.ofInt q16))
              · replace H := dz_if c19 H
                refine wp_s (i := .iload 6) (n := 2) (pc' := 122) (st' := [dz_I s12.1]) rfl rfl ?_
                refine wp_s (i := .goto 5) (n := 3) (pc' := 127) (st' := [dz_I s12.1]) rfl rfl ?_
                refine wq_st (k := 4) (i := .istore 4) (n := 2) (ls' := [some (.ref 114), some (dz_I a1), some (dz_I q3), some (dz_I q18), some (dz_I s12.1), some (dz_I s4.2.2.1), some (dz_I s12.1), some (dz_I q16)]) (pc' := 129) rfl rfl rfl rfl rfl ?_
                refine wq_inc (k := 5) (d := 1) (x := s4.2.2.1) (ls' := [some (.ref 114), some (dz_I a1), some (dz_I q3), some (dz_I q18), some (dz_I s12.1), some (dz_I (s4.2.2.1 + 1)), some (dz_I s12.1), some (dz_I q16)]) (pc' := 132) rfl rfl rfl rfl ?_
                refine wp_s (i := .goto (-96)) (n := 3) (pc' := 36) (st' := []) rfl rfl ?_
                replace H := dz_out H
                replace H := dz_back H
                exact H (some (Int32.ofInt s12.1)) (some (Int32.ofInt q16))
            · skip
              refine wq_if (p := dz_c q16 = 0) (tt := 113) (pc' := 108) rfl rfl (cz_eq rfl) rfl (fun c20 => ?_) (fun c20 => ?_)
              · replace H := dz_it c20 H
                refine wp_s (i := .iload_n 3) (n := 1) (pc' := 114) (st' := [dz_I s4.1]) rfl rfl ?_
                replace H := dz_sm H
                exact H
              · replace H := dz_if c20 H
                refine wp_s (i := .iload 5) (n := 2) (pc' := 110) (st' := [dz_I s4.2.2.1]) rfl rfl ?_
                refine wp_s (i := .goto 4) (n := 3) (pc' := 114) (st' := [dz_I s4.2.2.1]) rfl rfl ?_
                replace H := dz_sm H
                exact H
          · skip
            refine wq_ic (p := dz_c s4.1 = (-4)) (tt := 96) (pc' := 89) rfl rfl (cq_eq rfl dk_m4) rfl (fun c21 => ?_) (fun c21 => ?_)
            · replace H := dz_it c21 H
              refine wp_s (i := .iconst 1) (n := 1) (pc' := 97) (st' := [dz_I 1]) rfl rfl ?_
              refine wp_s (i := .goto 4) (n := 3) (pc' := 101) (st' := [dz_I 1]) rfl rfl ?_
              replace H := dz_sm H
              exact H
            · replace H := dz_if c21 H
              refine wp_s (i := .iload 6) (n := 2) (pc' := 91) (st' := [dz_I s12.1]) rfl rfl ?_
              refine wp_s (i := .iload 4) (n := 2) (pc' := 93) (st' := [dz_I s4.2.1, dz_I s12.1]) rfl rfl ?_
              refine wq_ic (p := dz_c s4.2.1 ≤ dz_c s12.1) (tt := 100) (pc' := 96) rfl rfl (cq_ge rfl rfl) rfl (fun c22 => ?_) (fun c22 => ?_)
              · replace H := dz_it c22 H
                refine wp_s (i := .iconst 0) (n := 1) (pc' := 101) (st' := [dz_I 0]) rfl rfl ?_
                replace H := dz_sm H
                exact H
              · replace H := dz_if c22 H
                refine wp_s (i := .iconst 1) (n := 1) (pc' := 97) (st' := [dz_I 1]) rfl rfl ?_
                refine wp_s (i := .goto 4) (n := 3) (pc' := 101) (st' := [dz_I 1]) rfl rfl ?_
                replace H := dz_sm H
                exact H
        · replace H := dz_if c13 H
          refine wp_s (i := .iload 6) (n := 2) (pc' := 68) (st' := [dz_I s12.1]) rfl rfl ?_
          refine wp_s (i := .aload_n 0) (n := 1) (pc' := 69) (st' := [.ref 114, dz_I s12.1]) rfl rfl ?_
          refine wp_s (i := .iload 7) (n := 2) (pc' := 71) (st' := [dz_I s12.2.1, .ref 114, dz_I s12.1]) rfl rfl ?_
          refine wq_cv (Dq := (D + 5)) (r' := mm_r169) (as0 := [dz_I s12.2.1]) (rest := [dz_I s12.1]) (ls' := [some (.ref 114), some (dz_I s12.2.1), none, none, none, none]) (pc' := 74) rfl rfl rfl rfl ho_M rfl rfl rfl ?_
          refine jw_M_farOf (X := X) (D := D + 0) s12.2.1 s12.2.2 (dz_pm (dz_bi H) (fun q23 H => ?_))
          show mm_Wp X (D + 6) mm_r175 74 [some (.ref 114), some (dz_I a1), some (dz_I q3), some (dz_I s4.1), some (dz_I s4.2.1), some (dz_I s4.2.2.1), some (dz_I s12.1), some (dz_I s12.2.1)] [dz_I q23.1, dz_I s12.1] (hz_0 q23.2) Q
          refine wq_2 (i := .iadd) (z := s12.1 + q23.1) (pc' := 75) rfl rfl (op_add _ _) rfl ?_
          refine wq_st (k := 6) (i := .istore 6) (n := 2) (ls' := [some (.ref 114), some (dz_I a1), some (dz_I q3), some (dz_I s4.1), some (dz_I s4.2.1), some (dz_I s4.2.2.1), some (dz_I (s12.1 + q23.1)), some (dz_I s12.2.1)]) (pc' := 77) rfl rfl rfl rfl rfl ?_
          refine wq_inc (k := 7) (d := 1) (x := s12.2.1) (ls' := [some (.ref 114), some (dz_I a1), some (dz_I q3), some (dz_I s4.1), some (dz_I s4.2.1), some (dz_I s4.2.2.1), some (dz_I (s12.1 + q23.1)), some (dz_I (s12.2.1 + 1))]) (pc' := 80) rfl rfl rfl rfl ?_
          refine wp_s (i := .goto (-23)) (n := 3) (pc' := 57) (st' := []) rfl rfl ?_
          replace H := dz_back H
          exact H
    · replace H := dz_if c2 H
      refine wp_s (i := .bipush (-2)) (n := 2) (pc' := 21) (st' := [dz_I (-2)]) rfl rfl ?_
      refine wq_ri rfl rfl ?_
      replace H := dz_sm H
      exact H
  · replace H := dz_if c1 H
    refine wp_s (i := .iconst (-1)) (n := 1) (pc' := 11) (st' := [dz_I (-1)]) rfl rfl ?_
    refine wq_ri rfl rfl ?_
    replace H := dz_sm H
    exact H
-- 176
def jf_M_wakes (a1 : Int) (Z : dz_Z) : Option (Int × dz_Z) := Option.bind (jf_M_plays2 a1 Z) fun q1 => dz_lp (fun (s2 : Int × Int) => if dz_c (q1 114 5 0) ≤ dz_c s2.2 then (some (Sum.inr (s2.1, q1))) else (if 0 ≤ dz_c (3 * s2.2) ∧ dz_c (3 * s2.2) < 12 then dz_lp (fun (s6 : Int × Int) => if 0 ≤ dz_c ((3 * s2.2) + 1) ∧ dz_c ((3 * s2.2) + 1) < 12 then if dz_c (q1 114 10 (dz_c ((3 * s2.2) + 1))) < dz_c s6.2 then (some (Sum.inr (Sum.inl (s6.1, s2.2 + 1)))) else (Option.bind (jf_M_lengthOf a1 q1) fun q9 => if dz_c q9 ≤ dz_c s6.2 then (some (Sum.inr (Sum.inl (s6.1, s2.2 + 1)))) else (if 0 ≤ dz_c s6.2 ∧ dz_c s6.2 < 12 then if 0 ≤ dz_c ((3 * s2.2) + 2) ∧ dz_c ((3 * s2.2) + 2) < 12 then Option.bind (α := Int) (if dz_c (q1 114 36 (dz_c s6.2)) < dz_c (q1 114 10 (dz_c ((3 * s2.2) + 2))) then (some 0) else (some (dz_sl 1 s2.2))) (fun (q14 : Int) => some (Sum.inl (dz_or s6.1 q14, s6.2 + 1))) else none else none)) else none) 5000 (s2.1, q1 114 10 (dz_c (3 * s2.2))) else none)) 5000 (0, 0)
set_option maxRecDepth 20000 in
theorem jw_M_wakes {X : Option (List Int32)} {D : Nat} {Q : Option Value → mm_H → Prop} (a1 : Int) (Z : dz_Z) (H : dz_p (jf_M_wakes a1 Z) (fun q => Q (some (dz_I q.1)) (hz_0 q.2))) : mm_Wp X (D + 5) mm_r176 0 [some (.ref 114), some (dz_I a1), none, none, none] [] (hz_0 Z) Q := by
  unfold jf_M_wakes at H
  refine wp_s (i := .aload_n 0) (n := 1) (pc' := 1) (st' := [.ref 114]) rfl rfl ?_
  refine wp_s (i := .iload_n 1) (n := 1) (pc' := 2) (st' := [dz_I a1, .ref 114]) rfl rfl ?_
  refine wq_cv (Dq := (D + 4)) (r' := mm_r162) (as0 := [dz_I a1]) (rest := []) (ls' := [some (.ref 114), some (dz_I a1)]) (pc' := 5) rfl rfl rfl rfl ho_M rfl rfl rfl ?_
  refine jw_M_plays2 (X := X) (D := D + 0) a1 Z (dz_pm (dz_bi H) (fun q1 H => ?_))
  show mm_Wp X (D + 5) mm_r176 5 [some (.ref 114), some (dz_I a1), none, none, none] [] (hz_0 q1) Q
  refine wp_s (i := .iconst 0) (n := 1) (pc' := 6) (st' := [dz_I 0]) rfl rfl ?_
  refine wq_st (k := 2) (i := .istore_n 2) (n := 1) (ls' := [some (.ref 114), some (dz_I a1), some (dz_I 0), none, none]) (pc' := 7) rfl rfl rfl rfl rfl ?_
  refine wp_s (i := .iconst 0) (n := 1) (pc' := 8) (st' := [dz_I 0]) rfl rfl ?_
  refine wq_st (k := 3) (i := .istore_n 3) (n := 1) (ls' := [some (.ref 114), some (dz_I a1), some (dz_I 0), some (dz_I 0), none]) (pc' := 9) rfl rfl rfl rfl rfl ?_
  refine dz_lpi (P := fun (s2 : Int × Int) => ∀ (u3 : Option Int32), mm_Wp X (D + 5) mm_r176 9 [some (.ref 114), some (dz_I a1), some (dz_I s2.1), some (dz_I s2.2), Option.map Value.int u3] [] (hz_0 q1) Q) (fun s2 H => ?_) 5000 (0, 0) H none
  intro u3
  refine wp_s (i := .iload_n 3) (n := 1) (pc' := 10) (st' := [dz_I s2.2]) rfl rfl ?_
  refine wp_s (i := .aload_n 0) (n := 1) (pc' := 11) (st' := [.ref 114, dz_I s2.2]) rfl rfl ?_
  refine wq_gi (idx := 176) (pc' := 14) rfl rfl ho_M rfl rfl ?_
  refine wq_ic (p := dz_c (q1 114 5 0) ≤ dz_c s2.2) (tt := 94) (pc' := 17) rfl rfl (cq_ge rfl rfl) rfl (fun c4 => ?_) (fun c4 => ?_)
  · replace H := dz_it c4 H
    refine wp_s (i := .iload_n 2) (n := 1) (pc' := 95) (st' := [dz_I s2.1]) rfl rfl ?_
    refine wq_ri rfl rfl ?_
    replace H := dz_out H
    replace H := dz_sm H
    exact H
  · replace H := dz_if c4 H
    refine wp_s (i := .aload_n 0) (n := 1) (pc' := 18) (st' := [.ref 114]) rfl rfl ?_
    refine wq_gr (idx := 22) (a := 119) (pc' := 21) rfl rfl ho_M rfl rfl ?_
    refine wp_s (i := .iconst 3) (n := 1) (pc' := 22) (st' := [dz_I 3, .ref 119]) rfl rfl ?_
    refine wp_s (i := .iload_n 3) (n := 1) (pc' := 23) (st' := [dz_I s2.2, dz_I 3, .ref 119]) rfl rfl ?_
    refine wq_2 (i := .imul) (z := 3 * s2.2) (pc' := 24) rfl rfl (op_mul _ _) rfl ?_
    obtain ⟨k5, H⟩ := dz_ck H
    refine wq_ia (j' := dz_c (3 * s2.2)) (pc' := 25) rfl ha_M_10 rfl k5.1 k5.2 rfl ?_
    refine wq_st (k := 4) (i := .istore 4) (n := 2) (ls' := [some (.ref 114), some (dz_I a1), some (dz_I s2.1), some (dz_I s2.2), some (dz_I (q1 114 10 (dz_c (3 * s2.2))))]) (pc' := 27) rfl rfl rfl rfl rfl ?_
    refine dz_lpi (P := fun (s6 : Int × Int) => mm_Wp X (D + 5) mm_r176 27 [some (.ref 114), some (dz_I a1), some (dz_I s6.1), some (dz_I s2.2), some (dz_I s6.2)] [] (hz_0 q1) Q) (fun s6 H => ?_) 5000 (s2.1, q1 114 10 (dz_c (3 * s2.2))) H
    refine wp_s (i := .iload 4) (n := 2) (pc' := 29) (st' := [dz_I s6.2]) rfl rfl ?_
    refine wp_s (i := .aload_n 0) (n := 1) (pc' := 30) (st' := [.ref 114, dz_I s6.2]) rfl rfl ?_
    refine wq_gr (idx := 22) (a := 119) (pc' := 33) rfl rfl ho_M rfl rfl ?_
    refine wp_s (i := .iconst 3) (n := 1) (pc' := 34) (st' := [dz_I 3, .ref 119, dz_I s6.2]) rfl rfl ?_
    refine wp_s (i := .iload_n 3) (n := 1) (pc' := 35) (st' := [dz_I s2.2, dz_I 3, .ref 119, dz_I s6.2]) rfl rfl ?_
    refine wq_2 (i := .imul) (z := 3 * s2.2) (pc' := 36) rfl rfl (op_mul _ _) rfl ?_
    refine wp_s (i := .iconst 1) (n := 1) (pc' := 37) (st' := [dz_I 1, dz_I (3 * s2.2), .ref 119, dz_I s6.2]) rfl rfl ?_
    refine wq_2 (i := .iadd) (z := (3 * s2.2) + 1) (pc' := 38) rfl rfl (op_add _ _) rfl ?_
    obtain ⟨k7, H⟩ := dz_ck H
    refine wq_ia (j' := dz_c ((3 * s2.2) + 1)) (pc' := 39) rfl ha_M_10 rfl k7.1 k7.2 rfl ?_
    refine wq_ic (p := dz_c (q1 114 10 (dz_c ((3 * s2.2) + 1))) < dz_c s6.2) (tt := 88) (pc' := 42) rfl rfl (cq_gt rfl rfl) rfl (fun c8 => ?_) (fun c8 => ?_)
    · replace H := dz_it c8 H
      refine wq_inc (k := 3) (d := 1) (x := s2.2) (ls' := [some (.ref 114), some (dz_I a1), some (dz_I s6.1), some (dz_I (s2.2 + 1)), some (dz_I s6.2)]) (pc' := 91) rfl rfl rfl rfl ?_
      refine wp_s (i := .goto (-82)) (n := 3) (pc' := 9) (st' := []) rfl rfl ?_
      replace H := dz_out H
      replace H := dz_back H
      exact H (some (Int32.ofInt s6.2))
    · replace H := dz_if c8 H
      refine wp_s (i := .iload 4) (n := 2) (pc' := 44) (st' := [dz_I s6.2]) rfl rfl ?_
      refine wp_s (i := .aload_n 0) (n := 1) (pc' := 45) (st' := [.ref 114, dz_I s6.2]) rfl rfl ?_
      refine wp_s (i := .iload_n 1) (n := 1) (pc' := 46) (st' := [dz_I a1, .ref 114, dz_I s6.2]) rfl rfl ?_
      refine wq_cv (Dq := (D + 4)) (r' := mm_r160) (as0 := [dz_I a1]) (rest := [dz_I s6.2]) (ls' := [some (.ref 114), some (dz_I a1)]) (pc' := 49) rfl rfl rfl rfl ho_M rfl rfl rfl ?_
      refine jw_M_lengthOf (X := X) (D := D + 4) a1 q1 (dz_pm (dz_bi H) (fun q9 H => ?_))
      show mm_Wp X (D + 5) mm_r176 49 [some (.ref 114), some (dz_I a1), some (dz_I s6.1), some (dz_I s2.2), some (dz_I s6.2)] [dz_I q9, dz_I s6.2] (hz_0 q1) Q
      refine wq_ic (p := dz_c q9 ≤ dz_c s6.2) (tt := 88) (pc' := 52) rfl rfl (cq_ge rfl rfl) rfl (fun c10 => ?_) (fun c10 => ?_)
      · replace H := dz_it c10 H
        refine wq_inc (k := 3) (d := 1) (x := s2.2) (ls' := [some (.ref 114), some (dz_I a1), some (dz_I s6.1), some (dz_I (s2.2 + 1)), some (dz_I s6.2)]) (pc' := 91) rfl rfl rfl rfl ?_
        refine wp_s (i := .goto (-82)) (n := 3) (pc' := 9) (st' := []) rfl rfl ?_
        replace H := dz_out H
        replace H := dz_back H
        exact H (some (Int32.ofInt s6.2))
      · replace H := dz_if c10 H
        refine wp_s (i := .iload_n 2) (n := 1) (pc' := 53) (st' := [dz_I s6.1]) rfl rfl ?_
        refine wp_s (i := .aload_n 0) (n := 1) (pc' := 54) (st' := [.ref 114, dz_I s6.1]) rfl rfl ?_
        refine wq_gr (idx := 61) (a := 132) (pc' := 57) rfl rfl ho_M rfl rfl ?_
        refine wp_s (i := .iload 4) (n := 2) (pc' := 59) (st' := [dz_I s6.2, .ref 132, dz_I s6.1]) rfl rfl ?_
        obtain ⟨k11, H⟩ := dz_ck H
        refine wq_ia (j' := dz_c s6.2) (pc' := 60) rfl ha_M_36 rfl k11.1 k11.2 rfl ?_
        refine wp_s (i := .aload_n 0) (n := 1) (pc' := 61) (st' := [.ref 114, dz_I (q1 114 36 (dz_c s6.2)), dz_I s6.1]) rfl rfl ?_
        refine wq_gr (idx := 22) (a := 119) (pc' := 64) rfl rfl ho_M rfl rfl ?_
        refine wp_s (i := .iconst 3) (n := 1) (pc' := 65) (st' := [dz_I 3, .ref 119, dz_I (q1 114 36 (dz_c s6.2)), dz_I s6.1]) rfl rfl ?_
        refine wp_s (i := .iload_n 3) (n := 1) (pc' := 66) (st' := [dz_I s2.2, dz_I 3, .ref 119, dz_I (q1 114 36 (dz_c s6.2)), dz_I s6.1]) rfl rfl ?_
        refine wq_2 (i := .imul) (z := 3 * s2.2) (pc' := 67) rfl rfl (op_mul _ _) rfl ?_
        refine wp_s (i := .iconst 2) (n := 1) (pc' := 68) (st' := [dz_I 2, dz_I (3 * s2.2), .ref 119, dz_I (q1 114 36 (dz_c s6.2)), dz_I s6.1]) rfl rfl ?_
        refine wq_2 (i := .iadd) (z := (3 * s2.2) + 2) (pc' := 69) rfl rfl (op_add _ _) rfl ?_
        obtain ⟨k12, H⟩ := dz_ck H
        refine wq_ia (j' := dz_c ((3 * s2.2) + 2)) (pc' := 70) rfl ha_M_10 rfl k12.1 k12.2 rfl ?_
        refine dz_jn (P := fun (q14 : Int) => mm_Wp X (D + 5) mm_r176 80 [some (.ref 114), some (dz_I a1), some (dz_I s6.1), some (dz_I s2.2), some (dz_I s6.2)] [dz_I q14, dz_I s6.1] (hz_0 q1) Q) (dz_bi H) (fun q14 H => ?_) (fun H => ?_)
        · skip
          refine wq_2 (i := .ior) (z := dz_or s6.1 q14) (pc' := 81) rfl rfl (op_or _ _) rfl ?_
          refine wq_st (k := 2) (i := .istore_n 2) (n := 1) (ls' := [some (.ref 114), some (dz_I a1), some (dz_I (dz_or s6.1 q14)), some (dz_I s2.2), some (dz_I s6.2)]) (pc' := 82) rfl rfl rfl rfl rfl ?_
          refine wq_inc (k := 4) (d := 1) (x := s6.2) (ls' := [some (.ref 114), some (dz_I a1), some (dz_I (dz_or s6.1 q14)), some (dz_I s2.2), some (dz_I (s6.2 + 1))]) (pc' := 85) rfl rfl rfl rfl ?_
          refine wp_s (i := .goto (-58)) (n := 3) (pc' := 27) (st' := []) rfl rfl ?_
          replace H := dz_back H
          exact H
        · skip
          refine wq_ic (p := dz_c (q1 114 36 (dz_c s6.2)) < dz_c (q1 114 10 (dz_c ((3 * s2.2) + 2)))) (tt := 79) (pc' := 73) rfl rfl (cq_lt rfl rfl) rfl (fun c15 => ?_) (fun c15 => ?_)
          · replace H := dz_it c15 H
            refine wp_s (i := .iconst 0) (n := 1) (pc' := 80) (st' := [dz_I 0, dz_I s6.1]) rfl rfl ?_
            replace H := dz_sm H
            exact H
          · replace H := dz_if c15 H
            refine wp_s (i := .iconst 1) (n := 1) (pc' := 74) (st' := [dz_I 1, dz_I s6.1]) rfl rfl ?_
            refine wp_s (i := .iload_n 3) (n := 1) (pc' := 75) (st' := [dz_I s2.2, dz_I 1, dz_I s6.1]) rfl rfl ?_
            refine wq_2 (i := .ishl) (z := dz_sl 1 s2.2) (pc' := 76) rfl rfl (op_shl _ _) rfl ?_
            refine wp_s (i := .goto 4) (n := 3) (pc' := 80) (st' := [dz_I (dz_sl 1 s2.2), dz_I s6.1]) rfl rfl ?_
            replace H := dz_sm H
            exact H
-- 177
def jf_M_quiet (a1 : Int) (a2 : Int) (Z : dz_Z) : Option (Int × dz_Z) := Option.bind (jf_M_isShower a1 Z) fun q1 => if q1 = false then (some ((-1), Z)) else (if 0 ≤ dz_c a2 ∧ dz_c a2 ≤ 2 then (Option.bind (jf_M_settingsNow Z) fun q4 => dz_lp (fun (s5 : Int × Int × Int × Int × dz_Z) => Option.bind (jf_M_settingMany s5.2.2.2.2) fun q9 => if dz_c q9 ≤ dz_c s5.2.2.2.1 then (Option.bind (jf_M_sets q4 s5.2.2.2.2) fun q11 => if dz_c a2 ≠ 2 then (if dz_c s5.1 = (-4) then (some (Sum.inr (s5.1, q11))) else (if dz_c a2 ≠ 0 then (some (Sum.inr (s5.2.1, q11))) else (some (Sum.inr (s5.1, q11))))) else (some (Sum.inr (s5.2.2.1, q11)))) else (Option.bind (jf_M_sets s5.2.2.2.1 s5.2.2.2.2) fun q15 => Option.bind (jf_M_wakes a1 q15) fun q16 => Option.bind (α := Int) (if dz_c q16.1 ≠ 0 then (some 0) else (some 1)) (fun (q18 : Int) => Option.bind (jf_M_farOf a1 q16.2) fun q19 => Option.bind (α := Int) (if dz_c q18 = 0 then (some 0) else (if dz_c s5.1 = (-4) then (some 1) else (if dz_c s5.2.1 ≤ dz_c q19.1 then (some 0) else (some 1)))) (fun (q23 : Int) => Option.bind (α := Int) (if dz_c q23 = 0 then (some s5.1) else (some s5.2.2.2.1)) (fun (q25 : Int) => Option.bind (α := Int) (if dz_c q23 = 0 then (some s5.2.1) else (some q19.1)) (fun (q27 : Int) => Option.bind (α := Int) (if dz_c q18 = 0 then (some 0) else (some 1)) (fun (q29 : Int) => some (Sum.inl (q25, q27, s5.2.2.1 + q29, s5.2.2.2.1 + 1, q19.2))))))))) 5000 ((-4), 0, 0, 0, Z)) else (some ((-1), Z)))
set_option maxRecDepth 20000 in
theorem jw_M_quiet {X : Option (List Int32)} {D : Nat} {Q : Option Value → mm_H → Prop} (a1 : Int) (a2 : Int) (Z : dz_Z) (H : dz_p (jf_M_quiet a1 a2 Z) (fun q => Q (some (dz_I q.1)) (hz_0 q.2))) : mm_Wp X (D + 6) mm_r177 0 [some (.ref 114), some (dz_I a1), some (dz_I a2), none, none, none, none, none, none, none, none] [] (hz_0 Z) Q := by
  unfold jf_M_quiet at H
  refine wp_s (i := .aload_n 0) (n := 1) (pc' := 1) (st' := [.ref 114]) rfl rfl ?_
  refine wp_s (i := .iload_n 1) (n := 1) (pc' := 2) (st' := [dz_I a1, .ref 114]) rfl rfl ?_
  refine wq_cv (Dq := (D + 5)) (r' := mm_r140) (as0 := [dz_I a1]) (rest := []) (ls' := [some (.ref 114), some (dz_I a1)]) (pc' := 5) rfl rfl rfl rfl ho_M rfl rfl rfl ?_
  refine jw_M_isShower (X := X) (D := D + 4) a1 Z (dz_pm (dz_bi H) (fun q1 H => ?_))
  show mm_Wp X (D + 6) mm_r177 5 [some (.ref 114), some (dz_I a1), some (dz_I a2), none, none, none, none, none, none, none, none] [dz_B q1] (hz_0 Z) Q
  refine wq_if (p := q1 = false) (tt := 20) (pc' := 8) rfl rfl (cb_eq) rfl (fun c2 => ?_) (fun c2 => ?_)
  · replace H := dz_it c2 H
    refine wp_s (i := .iconst (-1)) (n := 1) (pc' := 21) (st' := [dz_I (-1)]) rfl rfl ?_
    refine wq_ri rfl rfl ?_
    replace H := dz_sm H
    exact H
  · replace H := dz_if c2 H
    refine wp_s (i := .iload_n 2) (n := 1) (pc' := 9) (st' := [dz_I a2]) rfl rfl ?_
    refine wq_3 (i := .i2l) (v' := dz_J (dz_c a2)) (pc' := 10) rfl rfl (oq_i2l' rfl) rfl ?_
    refine wp_s (i := .lconst 0) (n := 1) (pc' := 11) (st' := [dz_J 0, dz_J (dz_c a2)]) rfl rfl ?_
    refine wp_s (i := .ldc2_w 198) (n := 3) (pc' := 14) (st' := [dz_J 2, dz_J 0, dz_J (dz_c a2)]) rfl rfl ?_
    refine wq_cs (Dq := (D + 5)) (r' := mm_r120) (as0 := [dz_J (dz_c a2), dz_J 0, dz_J 2]) (rest := []) (ls' := [some (dz_J (dz_c a2)), none, some (dz_J 0), none, some (dz_J 2), none]) (pc' := 17) rfl rfl (by decide) rfl rfl rfl rfl rfl ?_
    refine jw_in (a' := dz_c a2) (b' := 0) (c' := 2) (dz_lc _) (by decide) (by decide) ?_
    show mm_Wp X (D + 6) mm_r177 17 [some (.ref 114), some (dz_I a1), some (dz_I a2), none, none, none, none, none, none, none, none] [dz_B (decide (0 ≤ dz_c a2 ∧ dz_c a2 ≤ 2))] (hz_0 Z) Q
    refine wq_if (p := 0 ≤ dz_c a2 ∧ dz_c a2 ≤ 2) (tt := 22) (pc' := 20) rfl rfl (cd_ne) rfl (fun c3 => ?_) (fun c3 => ?_)
    · replace H := dz_it c3 H
      refine wp_s (i := .aload_n 0) (n := 1) (pc' := 23) (st' := [.ref 114]) rfl rfl ?_
      refine wq_cv (Dq := (D + 5)) (r' := mm_r147) (as0 := []) (rest := []) (ls' := [some (.ref 114), none, none]) (pc' := 26) rfl rfl rfl rfl ho_M rfl rfl rfl ?_
      refine jw_M_settingsNow (X := X) (D := D + 5) Z (dz_pm (dz_bi H) (fun q4 H => ?_))
      show mm_Wp X (D + 6) mm_r177 26 [some (.ref 114), some (dz_I a1), some (dz_I a2), none, none, none, none, none, none, none, none] [dz_I q4] (hz_0 Z) Q
      refine wq_st (k := 3) (i := .istore_n 3) (n := 1) (ls' := [some (.ref 114), some (dz_I a1), some (dz_I a2), some (dz_I q4), none, none, none, none, none, none, none]) (pc' := 27) rfl rfl rfl rfl rfl ?_
      refine wp_s (i := .bipush (-4)) (n := 2) (pc' := 29) (st' := [dz_I (-4)]) rfl rfl ?_
      refine wq_st (k := 4) (i := .istore 4) (n := 2) (ls' := [some (.ref 114), some (dz_I a1), some (dz_I a2), some (dz_I q4), some (dz_I (-4)), none, none, none, none, none, none]) (pc' := 31) rfl rfl rfl rfl rfl ?_
      refine wp_s (i := .iconst 0) (n := 1) (pc' := 32) (st' := [dz_I 0]) rfl rfl ?_
      refine wq_st (k := 5) (i := .istore 5) (n := 2) (ls' := [some (.ref 114), some (dz_I a1), some (dz_I a2), some (dz_I q4), some (dz_I (-4)), some (dz_I 0), none, none, none, none, none]) (pc' := 34) rfl rfl rfl rfl rfl ?_
      refine wp_s (i := .iconst 0) (n := 1) (pc' := 35) (st' := [dz_I 0]) rfl rfl ?_
      refine wq_st (k := 6) (i := .istore 6) (n := 2) (ls' := [some (.ref 114), some (dz_I a1), some (dz_I a2), some (dz_I q4), some (dz_I (-4)), some (dz_I 0), some (dz_I 0), none, none, none, none]) (pc' := 37) rfl rfl rfl rfl rfl ?_
      refine wp_s (i := .iconst 0) (n := 1) (pc' := 38) (st' := [dz_I 0]) rfl rfl ?_
      refine wq_st (k := 7) (i := .istore 7) (n := 2) (ls' := [some (.ref 114), some (dz_I a1), some (dz_I a2), some (dz_I q4), some (dz_I (-4)), some (dz_I 0), some (dz_I 0), some (dz_I 0), none, none, none]) (pc' := 40) rfl rfl rfl rfl rfl ?_
      refine dz_lpi (P := fun (s5 : Int × Int × Int × Int × dz_Z) => ∀ (u6 u7 u8 : Option Int32), mm_Wp X (D + 6) mm_r177 40 [some (.ref 114), some (dz_I a1), some (dz_I a2), some (dz_I q4), some (dz_I s5.1), some (dz_I s5.2.1), some (dz_I s5.2.2.1), some (dz_I s5.2.2.2.1), Option.map Value.int u6, Option.map Value.int u7, Option.map Value.int u8] [] (hz_0 s5.2.2.2.2) Q) (fun s5 H => ?_) 5000 ((-4), 0, 0, 0, Z) H none none none
      intro u6 u7 u8
      refine wp_s (i := .iload 7) (n := 2) (pc' := 42) (st' := [dz_I s5.2.2.2.1]) rfl rfl ?_
      refine wp_s (i := .aload_n 0) (n := 1) (pc' := 43) (st' := [.ref 114, dz_I s5.2.2.2.1]) rfl rfl ?_
      refine wq_cv (Dq := (D + 5)) (r' := mm_r146) (as0 := []) (rest := [dz_I s5.2.2.2.1]) (ls' := [some (.ref 114), none, none]) (pc' := 46) rfl rfl rfl rfl ho_M rfl rfl rfl ?_
      refine jw_M_settingMany (X := X) (D := D + 5) s5.2.2.2.2 (dz_pm (dz_bi H) (fun q9 H => ?_))
      show mm_Wp X (D + 6) mm_r177 46 [some (.ref 114), some (dz_I a1), some (dz_I a2), some (dz_I q4), some (dz_I s5.1), some (dz_I s5.2.1), some (dz_I s5.2.2.1), some (dz_I s5.2.2.2.1), Option.map Value.int u6, Option.map Value.int u7, Option.map Value.int u8] [dz_I q9, dz_I s5.2.2.2.1] (hz_0 s5.2.2.2.2) Q
      refine wq_ic (p := dz_c q9 ≤ dz_c s5.2.2.2.1) (tt := 152) (pc' := 49) rfl rfl (cq_ge rfl rfl) rfl (fun c10 => ?_) (fun c10 => ?_)
      · replace H := dz_it c10 H
        refine wp_s (i := .aload_n 0) (n := 1) (pc' := 153) (st' := [.ref 114]) rfl rfl ?_
        refine wp_s (i := .iload_n 3) (n := 1) (pc' := 154) (st' := [dz_I q4, .ref 114]) rfl rfl ?_
        refine wq_cv (Dq := (D + 5)) (r' := mm_r148) (as0 := [dz_I q4]) (rest := []) (ls' := [some (.ref 114), some (dz_I q4), none, none]) (pc' := 157) rfl rfl rfl rfl ho_M rfl rfl rfl ?_
        refine jw_M_sets (X := X) (D := D + 5) q4 s5.2.2.2.2 (dz_pm (dz_bi H) (fun q11 H => ?_))
        show mm_Wp X (D + 6) mm_r177 157 [some (.ref 114), some (dz_I a1), some (dz_I a2), some (dz_I q4), some (dz_I s5.1), some (dz_I s5.2.1), some (dz_I s5.2.2.1), some (dz_I s5.2.2.2.1), Option.map Value.int u6, Option.map Value.int u7, Option.map Value.int u8] [] (hz_0 q11) Q
        refine wp_s (i := .iload_n 2) (n := 1) (pc' := 158) (st' := [dz_I a2]) rfl rfl ?_
        refine wp_s (i := .iconst 2) (n := 1) (pc' := 159) (st' := [dz_I 2, dz_I a2]) rfl rfl ?_
        refine wq_ic (p := dz_c a2 ≠ 2) (tt := 167) (pc' := 162) rfl rfl (cq_ne rfl dk_2) rfl (fun c12 => ?_) (fun c12 => ?_)
        · replace H := dz_it c12 H
          refine wp_s (i := .iload 4) (n := 2) (pc' := 169) (st' := [dz_I s5.1]) rfl rfl ?_
          refine wp_s (i := .bipush (-4)) (n := 2) (pc' := 171) (st' := [dz_I (-4), dz_I s5.1]) rfl rfl ?_
          refine wq_ic (p := dz_c s5.1 = (-4)) (tt := 178) (pc' := 174) rfl rfl (cq_eq rfl dk_m4) rfl (fun c13 => ?_) (fun c13 => ?_)
          · replace H := dz_it c13 H
            refine wp_s (i := .iload 4) (n := 2) (pc' := 180) (st' := [dz_I s5.1]) rfl rfl ?_
            refine wp_s (i := .goto 5) (n := 3) (pc' := 185) (st' := [dz_I s5.1]) rfl rfl ?_
            refine wq_ri rfl rfl ?_
            replace H := dz_out H
            replace H := dz_sm H
            exact H
          · replace H := dz_if c13 H
            refine wp_s (i := .iload_n 2) (n := 1) (pc' := 175) (st' := [dz_I a2]) rfl rfl ?_
            refine wq_if (p := dz_c a2 ≠ 0) (tt := 183) (pc' := 178) rfl rfl (cz_ne rfl) rfl (fun c14 => ?_) (fun c14 => ?_)
            · replace H := dz_it c14 H
              refine wp_s (i := .iload 5) (n := 2) (pc' := 185) (st' := [dz_I s5.2.1]) rfl rfl ?_
              refine wq_ri rfl rfl ?_
              replace H := dz_out H
              replace H := dz_sm H
              exact H
            · replace H := dz_if c14 H
              refine wp_s (i := .iload 4) (n := 2) (pc' := 180) (st' := [dz_I s5.1]) rfl rfl ?_
              refine wp_s (i := .goto 5) (n := 3) (pc' := 185) (st' := [dz_I s5.1]) rfl rfl ?_
              refine wq_ri rfl rfl ?_
              replace H := dz_out H
              replace H := dz_sm H
              exact H
        · replace H := dz_if c12 H
          refine wp_s (i := .iload 6) (n := 2) (pc' := 164) (st' := [dz_I s5.2.2.1]) rfl rfl ?_
          refine wp_s (i := .goto 21) (n := 3) (pc' := 185) (st' := [dz_I s5.2.2.1]) rfl rfl ?_
          refine wq_ri rfl rfl ?_
          replace H := dz_out H
          replace H := dz_sm H
          exact H
      · replace H := dz_if c10 H
        refine wp_s (i := .aload_n 0) (n := 1) (pc' := 50) (st' := [.ref 114]) rfl rfl ?_
        refine wp_s (i := .iload 7) (n := 2) (pc' := 52) (st' := [dz_I s5.2.2.2.1, .ref 114]) rfl rfl ?_
        refine wq_cv (Dq := (D + 5)) (r' := mm_r148) (as0 := [dz_I s5.2.2.2.1]) (rest := []) (ls' := [some (.ref 114), some (dz_I s5.2.2.2.1), none, none]) (pc' := 55) rfl rfl rfl rfl ho_M rfl rfl rfl ?_
        refine jw_M_sets (X := X) (D := D + 5) s5.2.2.2.1 s5.2.2.2.2 (dz_pm (dz_bi H) (fun q15 H => ?_))
        show mm_Wp X (D + 6) mm_r177 55 [some (.ref 114), some (dz_I a1), some (dz_I a2), some (dz_I q4), some (dz_I s5.1), some (dz_I s5.2.1), some (dz_I s5.2.2.1), some (dz_I s5.2.2.2.1), Option.map Value.int u6, Option.map Value.int u7, Option.map Value.int u8] [] (hz_0 q15) Q
        refine wp_s (i := .aload_n 0) (n := 1) (pc' := 56) (st' := [.ref 114]) rfl rfl ?_
        refine wp_s (i := .iload_n 1) (n := 1) (pc' := 57) (st' := [dz_I a1, .ref 114]) rfl rfl ?_
        refine wq_cv (Dq := (D + 5)) (r' := mm_r176) (as0 := [dz_I a1]) (rest := []) (ls' := [some (.ref 114), some (dz_I a1), none, none, none]) (pc' := 60) rfl rfl rfl rfl ho_M rfl rfl rfl ?_
        refine jw_M_wakes (X := X) (D := D + 0) a1 q15 (dz_pm (dz_bi H) (fun q16 H => ?_))
        show mm_Wp X (D + 6) mm_r177 60 [some (.ref 114), some (dz_I a1), some (dz_I a2), some (dz_I q4), some (dz_I s5.1), some (dz_I s5.2.1), some (dz_I s5.2.2.1), some (dz_I s5.2.2.2.1), Option.map Value.int u6, Option.map Value.int u7, Option.map Value.int u8] [dz_I q16.1] (hz_0 q16.2) Q
        refine dz_jn (P := fun (q18 : Int) => mm_Wp X (D + 6) mm_r177 68 [some (.ref 114), some (dz_I a1), some (dz_I a2), some (dz_I q4), some (dz_I s5.1), some (dz_I s5.2.1), some (dz_I s5.2.2.1), some (dz_I s5.2.2.2.1), Option.map Value.int u6, Option.map Value.int u7, Option.map Value.int u8] [dz_I q18] (hz_0 q16.2) Q) (dz_bi H) (fun q18 H => ?_) (fun H => ?_)
        · skip
          refine wq_st (k := 8) (i := .istore 8) (n := 2) (ls' := [some (.ref 114), some (dz_I a1), some (dz_I a2), some (dz_I q4), some (dz_I s5.1), some (dz_I s5.2.1), some (dz_I s5.2.2.1), some (dz_I s5.2.2.2.1), some (dz_I q18), Option.map Value.int u7, Option.map Value.int u8]) (pc' := 70) rfl rfl rfl rfl rfl ?_
          refine wp_s (i := .aload_n 0) (n := 1) (pc' := 71) (st' := [.ref 114]) rfl rfl ?_
          refine wp_s (i := .iload_n 1) (n := 1) (pc' := 72) (st' := [dz_I a1, .ref 114]) rfl rfl ?_
          refine wq_cv (Dq := (D + 5)) (r' := mm_r169) (as0 := [dz_I a1]) (rest := []) (ls' := [some (.ref 114), some (dz_I a1), none, none, none, none]) (pc' := 75) rfl rfl rfl rfl ho_M rfl rfl rfl ?_
          refine jw_M_farOf (X := X) (D := D + 0) a1 q16.2 (dz_pm (dz_bi H) (fun q19 H => ?_))
          show mm_Wp X (D + 6) mm_r177 75 [some (.ref 114), some (dz_I a1), some (dz_I a2), some (dz_I q4), some (dz_I s5.1), some (dz_I s5.2.1), some (dz_I s5.2.2.1), some (dz_I s5.2.2.2.1), some (dz_I q18), Option.map Value.int u7, Option.map Value.int u8] [dz_I q19.1] (hz_0 q19.2) Q
          refine wq_st (k := 9) (i := .istore 9) (n := 2) (ls' := [some (.ref 114), some (dz_I a1), some (dz_I a2), some (dz_I q4), some (dz_I s5.1), some (dz_I s5.2.1), some (dz_I s5.2.2.1), some (dz_I s5.2.2.2.1), some (dz_I q18), some (dz_I q19.1), Option.map Value.int u8]) (pc' := 77) rfl rfl rfl rfl rfl ?_
          refine wp_s (i := .iload 8) (n := 2) (pc' := 79) (st' := [dz_I q18]) rfl rfl ?_
          refine dz_jn (P := fun (q23 : Int) => mm_Wp X (D + 6) mm_r177 101 [some (.ref 114), some (dz_I a1), some (dz_I a2), some (dz_I q4), some (dz_I s5.1), some (dz_I s5.2.1), some (dz_I s5.2.2.1), some (dz_I s5.2.2.2.1), some (dz_I q18), some (dz_I q19.1), Option.map Value.int u8] [dz_I q23] (hz_0 q19.2) Q) (dz_bi H) (fun q23 H => ?_) (fun H => ?_)
          · skip
            refine wq_st (k := 10) (i := .istore 10) (n := 2) (ls' := [some (.ref 114), some (dz_I a1), some (dz_I a2), some (dz_I q4), some (dz_I s5.1), some (dz_I s5.2.1), some (dz_I s5.2.2.1), some (dz_I s5.2.2.2.1), some (dz_I q18), some (dz_I q19.1), some (dz_I q23)]) (pc' := 103) rfl rfl rfl rfl rfl ?_
            refine wp_s (i := .iload 10) (n := 2) (pc' := 105) (st' := [dz_I q23]) rfl rfl ?_
            refine dz_jn (P := fun (q25 : Int) => mm_Wp X (D + 6) mm_r177 115 [some (.ref 114), some (dz_I a1), some (dz_I a2), some (dz_I q4), some (dz_I s5.1), some (dz_I s5.2.1), some (dz_I s5.2.2.1), some (dz_I s5.2.2.2.1), some (dz_I q18), some (dz_I q19.1), some (dz_I q23)] [dz_I q25] (hz_0 q19.2) Q) (dz_bi H) (fun q25 H => ?_) (fun H => ?_)
            · skip
              refine wq_st (k := 4) (i := .istore 4) (n := 2) (ls' := [some (.ref 114), some (dz_I a1), some (dz_I a2), some (dz_I q4), some (dz_I q25), some (dz_I s5.2.1), some (dz_I s5.2.2.1), some (dz_I s5.2.2.2.1), some (dz_I q18), some (dz_I q19.1), some (dz_I q23)]) (pc' := 117) rfl rfl rfl rfl rfl ?_
              refine wp_s (i := .iload 10) (n := 2) (pc' := 119) (st' := [dz_I q23]) rfl rfl ?_
              refine dz_jn (P := fun (q27 : Int) => mm_Wp X (D + 6) mm_r177 129 [some (.ref 114), some (dz_I a1), some (dz_I a2), some (dz_I q4), some (dz_I q25), some (dz_I s5.2.1), some (dz_I s5.2.2.1), some (dz_I s5.2.2.2.1), some (dz_I q18), some (dz_I q19.1), some (dz_I q23)] [dz_I q27] (hz_0 q19.2) Q) (dz_bi H) (fun q27 H => ?_) (fun H => ?_)
              · skip
                refine wq_st (k := 5) (i := .istore 5) (n := 2) (ls' := [some (.ref 114), some (dz_I a1), some (dz_I a2), some (dz_I q4), some (dz_I q25), some (dz_I q27), some (dz_I s5.2.2.1), some (dz_I s5.2.2.2.1), some (dz_I q18), some (dz_I q19.1), some (dz_I q23)]) (pc' := 131) rfl rfl rfl rfl rfl ?_
                refine wp_s (i := .iload 6) (n := 2) (pc' := 133) (st' := [dz_I s5.2.2.1]) rfl rfl ?_
                refine wp_s (i := .iload 8) (n := 2) (pc' := 135) (st' := [dz_I q18, dz_I s5.2.2.1]) rfl rfl ?_
                refine dz_jn (P := fun (q29 : Int) => mm_Wp X (D + 6) mm_r177 143 [some (.ref 114), some (dz_I a1), some (dz_I a2), some (dz_I q4), some (dz_I q25), some (dz_I q27), some (dz_I s5.2.2.1), some (dz_I s5.2.2.2.1), some (dz_I q18), some (dz_I q19.1), some (dz_I q23)] [dz_I q29, dz_I s5.2.2.1] (hz_0 q19.2) Q) (dz_bi H) (fun q29 H => ?_) (fun H => ?_)
                · skip
                  refine wq_2 (i := .iadd) (z := s5.2.2.1 + q29) (pc' := 144) rfl rfl (op_add _ _) rfl ?_
                  refine wq_st (k := 6) (i := .istore 6) (n := 2) (ls' := [some (.ref 114), some (dz_I a1), some (dz_I a2), some (dz_I q4), some (dz_I q25), some (dz_I q27), some (dz_I (s5.2.2.1 + q29)), some (dz_I s5.2.2.2.1), some (dz_I q18), some (dz_I q19.1), some (dz_I q23)]) (pc' := 146) rfl rfl rfl rfl rfl ?_
                  refine wq_inc (k := 7) (d := 1) (x := s5.2.2.2.1) (ls' := [some (.ref 114), some (dz_I a1), some (dz_I a2), some (dz_I q4), some (dz_I q25), some (dz_I q27), some (dz_I (s5.2.2.1 + q29)), some (dz_I (s5.2.2.2.1 + 1)), some (dz_I q18), some (dz_I q19.1), some (dz_I q23)]) (pc' := 149) rfl rfl rfl rfl ?_
                  refine wp_s (i := .goto (-109)) (n := 3) (pc' := 40) (st' := []) rfl rfl ?_
                  replace H := dz_back H
                  exact H (some (Int32.ofInt q18)) (some (Int32.ofInt q19.1)) (some (Int32.ofInt q23))
                · skip
                  refine wq_if (p := dz_c q18 = 0) (tt := 142) (pc' := 138) rfl rfl (cz_eq rfl) rfl (fun c30 => ?_) (fun c30 => ?_)
                  · replace H := dz_it c30 H
                    refine wp_s (i := .iconst 0) (n := 1) (pc' := 143) (st' := [dz_I 0, dz_I s5.2.2.1]) rfl rfl ?_
                    replace H := dz_sm H
                    exact H
                  · replace H := dz_if c30 H
                    refine wp_s (i := .iconst 1) (n := 1) (pc' := 139) (st' := [dz_I 1, dz_I s5.2.2.1]) rfl rfl ?_
                    refine wp_s (i := .goto 4) (n := 3) (pc' := 143) (st' := [dz_I 1, dz_I s5.2.2.1]) rfl rfl ?_
                    replace H := dz_sm H
                    exact H
              · skip
                refine wq_if (p := dz_c q23 = 0) (tt := 127) (pc' := 122) rfl rfl (cz_eq rfl) rfl (fun c31 => ?_) (fun c31 => ?_)
                · replace H := dz_it c31 H
                  refine wp_s (i := .iload 5) (n := 2) (pc' := 129) (st' := [dz_I s5.2.1]) rfl rfl ?_
                  replace H := dz_sm H
                  exact H
                · replace H := dz_if c31 H
                  refine wp_s (i := .iload 9) (n := 2) (pc' := 124) (st' := [dz_I q19.1]) rfl rfl ?_
                  refine wp_s (i := .goto 5) (n := 3) (pc' := 129) (st' := [dz_I q19.1]) rfl rfl ?_
                  replace H := dz_sm H
                  exact H
            · skip
              refine wq_if (p := dz_c q23 = 0) (tt := 113) (pc' := 108) rfl rfl (cz_eq rfl) rfl (fun c32 => ?_) (fun c32 => ?_)
              · replace H := dz_it c32 H
                refine wp_s (i := .iload 4) (n := 2) (pc' := 115) (st' := [dz_I s5.1]) rfl rfl ?_
                replace H := dz_sm H
                exact H
              · replace H := dz_if c32 H
                refine wp_s (i := .iload 7) (n := 2) (pc' := 110) (st' := [dz_I s5.2.2.2.1]) rfl rfl ?_
                refine wp_s (i := .goto 5) (n := 3) (pc' := 115) (st' := [dz_I s5.2.2.2.1]) rfl rfl ?_
                replace H := dz_sm H
                exact H
          · skip
            refine wq_if (p := dz_c q18 = 0) (tt := 100) (pc' := 82) rfl rfl (cz_eq rfl) rfl (fun c33 => ?_) (fun c33 => ?_)
            · replace H := dz_it c33 H
              refine wp_s (i := .iconst 0) (n := 1) (pc' := 101) (st' := [dz_I 0]) rfl rfl ?_
              replace H := dz_sm H
              exact H
            · replace H := dz_if c33 H
              refine wp_s (i := .iload 4) (n := 2) (pc' := 84) (st' := [dz_I s5.1]) rfl rfl ?_
              refine wp_s (i := .bipush (-4)) (n := 2) (pc' := 86) (st' := [dz_I (-4), dz_I s5.1]) rfl rfl ?_
              refine wq_ic (p := dz_c s5.1 = (-4)) (tt := 96) (pc' := 89) rfl rfl (cq_eq rfl dk_m4) rfl (fun c34 => ?_) (fun c34 => ?_)
              · replace H := dz_it c34 H
                refine wp_s (i := .iconst 1) (n := 1) (pc' := 97) (st' := [dz_I 1]) rfl rfl ?_
                refine wp_s (i := .goto 4) (n := 3) (pc' := 101) (st' := [dz_I 1]) rfl rfl ?_
                replace H := dz_sm H
                exact H
              · replace H := dz_if c34 H
                refine wp_s (i := .iload 9) (n := 2) (pc' := 91) (st' := [dz_I q19.1]) rfl rfl ?_
                refine wp_s (i := .iload 5) (n := 2) (pc' := 93) (st' := [dz_I s5.2.1, dz_I q19.1]) rfl rfl ?_
                refine wq_ic (p := dz_c s5.2.1 ≤ dz_c q19.1) (tt := 100) (pc' := 96) rfl rfl (cq_ge rfl rfl) rfl (fun c35 => ?_) (fun c35 => ?_)
                · replace H := dz_it c35 H
                  refine wp_s (i := .iconst 0) (n := 1) (pc' := 101) (st' := [dz_I 0]) rfl rfl ?_
                  replace H := dz_sm H
                  exact H
                · replace H := dz_if c35 H
                  refine wp_s (i := .iconst 1) (n := 1) (pc' := 97) (st' := [dz_I 1]) rfl rfl ?_
                  refine wp_s (i := .goto 4) (n := 3) (pc' := 101) (st' := [dz_I 1]) rfl rfl ?_
                  replace H := dz_sm H
                  exact H
        · skip
          refine wq_if (p := dz_c q16.1 ≠ 0) (tt := 67) (pc' := 63) rfl rfl (cz_ne rfl) rfl (fun c36 => ?_) (fun c36 => ?_)
          · replace H := dz_it c36 H
            refine wp_s (i := .iconst 0) (n := 1) (pc' := 68) (st' := [dz_I 0]) rfl rfl ?_
            replace H := dz_sm H
            exact H
          · replace H := dz_if c36 H
            refine wp_s (i := .iconst 1) (n := 1) (pc' := 64) (st' := [dz_I 1]) rfl rfl ?_
            refine wp_s (i := .goto 4) (n := 3) (pc' := 68) (st' := [dz_I 1]) rfl rfl ?_
            replace H := dz_sm H
            exact H
    · replace H := dz_if c3 H
      refine wp_s (i := .iconst (-1)) (n := 1) (pc' := 21) (st' := [dz_I (-1)]) rfl rfl ?_
      refine wq_ri rfl rfl ?_
      replace H := dz_sm H
      exact H
-- 178
def jf_M_woken (a1 : Int) (Z : dz_Z) : Option (Int × dz_Z) := Option.bind (jf_M_isShower a1 Z) fun q1 => if q1 = false then (some ((-1), Z)) else (Option.bind (jf_M_wakes a1 Z) fun q3 => some (q3.1, q3.2))
set_option maxRecDepth 20000 in
theorem jw_M_woken {X : Option (List Int32)} {D : Nat} {Q : Option Value → mm_H → Prop} (a1 : Int) (Z : dz_Z) (H : dz_p (jf_M_woken a1 Z) (fun q => Q (some (dz_I q.1)) (hz_0 q.2))) : mm_Wp X (D + 6) mm_r178 0 [some (.ref 114), some (dz_I a1)] [] (hz_0 Z) Q := by
  unfold jf_M_woken at H
  refine wp_s (i := .aload_n 0) (n := 1) (pc' := 1) (st' := [.ref 114]) rfl rfl ?_
  refine wp_s (i := .iload_n 1) (n := 1) (pc' := 2) (st' := [dz_I a1, .ref 114]) rfl rfl ?_
  refine wq_cv (Dq := (D + 5)) (r' := mm_r140) (as0 := [dz_I a1]) (rest := []) (ls' := [some (.ref 114), some (dz_I a1)]) (pc' := 5) rfl rfl rfl rfl ho_M rfl rfl rfl ?_
  refine jw_M_isShower (X := X) (D := D + 4) a1 Z (dz_pm (dz_bi H) (fun q1 H => ?_))
  show mm_Wp X (D + 6) mm_r178 5 [some (.ref 114), some (dz_I a1)] [dz_B q1] (hz_0 Z) Q
  refine wq_if (p := q1 = false) (tt := 16) (pc' := 8) rfl rfl (cb_eq) rfl (fun c2 => ?_) (fun c2 => ?_)
  · replace H := dz_it c2 H
    refine wp_s (i := .iconst (-1)) (n := 1) (pc' := 17) (st' := [dz_I (-1)]) rfl rfl ?_
    refine wq_ri rfl rfl ?_
    replace H := dz_sm H
    exact H
  · replace H := dz_if c2 H
    refine wp_s (i := .aload_n 0) (n := 1) (pc' := 9) (st' := [.ref 114]) rfl rfl ?_
    refine wp_s (i := .iload_n 1) (n := 1) (pc' := 10) (st' := [dz_I a1, .ref 114]) rfl rfl ?_
    refine wq_cv (Dq := (D + 5)) (r' := mm_r176) (as0 := [dz_I a1]) (rest := []) (ls' := [some (.ref 114), some (dz_I a1), none, none, none]) (pc' := 13) rfl rfl rfl rfl ho_M rfl rfl rfl ?_
    refine jw_M_wakes (X := X) (D := D + 0) a1 Z (dz_pm (dz_bi H) (fun q3 H => ?_))
    show mm_Wp X (D + 6) mm_r178 13 [some (.ref 114), some (dz_I a1)] [dz_I q3.1] (hz_0 q3.2) Q
    refine wp_s (i := .goto 4) (n := 3) (pc' := 17) (st' := [dz_I q3.1]) rfl rfl ?_
    refine wq_ri rfl rfl ?_
    replace H := dz_sm H
    exact H
