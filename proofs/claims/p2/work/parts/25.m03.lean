-- 40
def jf_R_readWay (a1 : Int) (Z : dz_Z) : Option (Bool × dz_Z) := Option.bind (jf_R_needs 2 Z) fun q1 => if q1.1 = true then (Option.bind (jf_R_isNamed 2 q1.2) fun q3 => if q3 = false then (Option.bind (jf_R_isNamed 3 q1.2) fun q5 => if q5 = false then (Option.bind (jf_R_isNamed 4 q1.2) fun q7 => if q7 = false then (Option.bind (jf_R_fail 2 q1.2) fun q9 => some (q9.1, q9.2)) else (dz_a (dz_u q1.2 1 9 0 20) fun Z10 => some (true, Z10))) else (Option.bind (jf_R_needsNumber 0 7 q1.2) fun q11 => dz_a (dz_u q11.2 1 9 0 ((q11.2 1 9 0) + 10)) fun Z12 => some (q11.1, Z12))) else (Option.bind (jf_R_needsNumber (a1 + 1) 4 q1.2) fun q13 => some (q13.1, q13.2))) else (some (false, q1.2))
set_option maxRecDepth 20000 in
theorem jw_R_readWay {X : Option (List Int32)} {D : Nat} {Q : Option Value → mm_H → Prop} (a1 : Int) (Z : dz_Z) (H : dz_p (jf_R_readWay a1 Z) (fun q => Q (some (dz_B q.1)) (hz_0 q.2))) : mm_Wp X (D + 5) mm_r40 0 [some (.ref 1), some (dz_I a1), none] [] (hz_0 Z) Q := by
  unfold jf_R_readWay at H
  refine wp_s (i := .aload_n 0) (n := 1) (pc' := 1) (st' := [.ref 1]) rfl rfl ?_
  refine wp_s (i := .iconst 2) (n := 1) (pc' := 2) (st' := [dz_I 2, .ref 1]) rfl rfl ?_
  refine wq_cv (Dq := (D + 4)) (r' := mm_r35) (as0 := [dz_I 2]) (rest := []) (ls' := [some (.ref 1), some (dz_I 2)]) (pc' := 5) rfl rfl rfl rfl ho_R rfl rfl rfl ?_
  refine jw_R_needs (X := X) (D := D + 2) 2 Z (dz_pm (dz_bi H) (fun q1 H => ?_))
  show mm_Wp X (D + 5) mm_r40 5 [some (.ref 1), some (dz_I a1), none] [dz_B q1.1] (hz_0 q1.2) Q
  refine wq_if (p := q1.1 = true) (tt := 10) (pc' := 8) rfl rfl (cb_ne) rfl (fun c2 => ?_) (fun c2 => ?_)
  · replace H := dz_it c2 H
    refine wp_s (i := .aload_n 0) (n := 1) (pc' := 11) (st' := [.ref 1]) rfl rfl ?_
    refine wp_s (i := .ldc 161) (n := 2) (pc' := 13) (st' := [.retAddr (1 + 2), .ref 1]) rfl rfl ?_
    refine wq_cv (Dq := (D + 4)) (r' := mm_r34) (as0 := [.retAddr (1 + 2)]) (rest := []) (ls' := [some (.ref 1), some (.retAddr (1 + 2)), none]) (pc' := 16) rfl rfl rfl rfl ho_R rfl rfl rfl ?_
    refine jw_R_isNamed (X := X) (D := D + 0) 2 (by decide) q1.2 (dz_pm (dz_bi H) (fun q3 H => ?_))
    show mm_Wp X (D + 5) mm_r40 16 [some (.ref 1), some (dz_I a1), none] [dz_B q3] (hz_0 q1.2) Q
    refine wq_if (p := q3 = false) (tt := 28) (pc' := 19) rfl rfl (cb_eq) rfl (fun c4 => ?_) (fun c4 => ?_)
    · replace H := dz_it c4 H
      refine wp_s (i := .aload_n 0) (n := 1) (pc' := 29) (st' := [.ref 1]) rfl rfl ?_
      refine wp_s (i := .ldc 107) (n := 2) (pc' := 31) (st' := [.retAddr (1 + 3), .ref 1]) rfl rfl ?_
      refine wq_cv (Dq := (D + 4)) (r' := mm_r34) (as0 := [.retAddr (1 + 3)]) (rest := []) (ls' := [some (.ref 1), some (.retAddr (1 + 3)), none]) (pc' := 34) rfl rfl rfl rfl ho_R rfl rfl rfl ?_
      refine jw_R_isNamed (X := X) (D := D + 0) 3 (by decide) q1.2 (dz_pm (dz_bi H) (fun q5 H => ?_))
      show mm_Wp X (D + 5) mm_r40 34 [some (.ref 1), some (dz_I a1), none] [dz_B q5] (hz_0 q1.2) Q
      refine wq_if (p := q5 = false) (tt := 58) (pc' := 37) rfl rfl (cb_eq) rfl (fun c6 => ?_) (fun c6 => ?_)
      · replace H := dz_it c6 H
        refine wp_s (i := .aload_n 0) (n := 1) (pc' := 59) (st' := [.ref 1]) rfl rfl ?_
        refine wp_s (i := .ldc 163) (n := 2) (pc' := 61) (st' := [.retAddr (1 + 4), .ref 1]) rfl rfl ?_
        refine wq_cv (Dq := (D + 4)) (r' := mm_r34) (as0 := [.retAddr (1 + 4)]) (rest := []) (ls' := [some (.ref 1), some (.retAddr (1 + 4)), none]) (pc' := 64) rfl rfl rfl rfl ho_R rfl rfl rfl ?_
        refine jw_R_isNamed (X := X) (D := D + 0) 4 (by decide) q1.2 (dz_pm (dz_bi H) (fun q7 H => ?_))
        show mm_Wp X (D + 5) mm_r40 64 [some (.ref 1), some (dz_I a1), none] [dz_B q7] (hz_0 q1.2) Q
        refine wq_if (p := q7 = false) (tt := 75) (pc' := 67) rfl rfl (cb_eq) rfl (fun c8 => ?_) (fun c8 => ?_)
        · replace H := dz_it c8 H
          refine wp_s (i := .aload_n 0) (n := 1) (pc' := 76) (st' := [.ref 1]) rfl rfl ?_
          refine wp_s (i := .iconst 2) (n := 1) (pc' := 77) (st' := [dz_I 2, .ref 1]) rfl rfl ?_
          refine wq_cv (Dq := (D + 4)) (r' := mm_r30) (as0 := [dz_I 2]) (rest := []) (ls' := [some (.ref 1), some (dz_I 2)]) (pc' := 80) rfl rfl rfl rfl ho_R rfl rfl rfl ?_
          refine jw_R_fail (X := X) (D := D + 4) 2 q1.2 (dz_pm (dz_bi H) (fun q9 H => ?_))
          show mm_Wp X (D + 5) mm_r40 80 [some (.ref 1), some (dz_I a1), none] [dz_B q9.1] (hz_0 q9.2) Q
          refine wq_rb rfl rfl ?_
          replace H := dz_sm H
          exact H
        · replace H := dz_if c8 H
          refine wp_s (i := .aload_n 0) (n := 1) (pc' := 68) (st' := [.ref 1]) rfl rfl ?_
          refine wp_s (i := .bipush 20) (n := 2) (pc' := 70) (st' := [dz_I 20, .ref 1]) rfl rfl ?_
          refine wq_pi (idx := 87) (x := 20) (pc' := 73) rfl rfl rfl ho_R rfl rfl rfl rfl (fun Z10 eZ10 => ?_)
          replace H := dz_le H Z10 eZ10
          clear eZ10
          refine wp_s (i := .iconst 1) (n := 1) (pc' := 74) (st' := [dz_I 1]) rfl rfl ?_
          refine wq_rt rfl rfl ?_
          replace H := dz_sm H
          exact H
      · replace H := dz_if c6 H
        refine wp_s (i := .aload_n 0) (n := 1) (pc' := 38) (st' := [.ref 1]) rfl rfl ?_
        refine wp_s (i := .iconst 0) (n := 1) (pc' := 39) (st' := [dz_I 0, .ref 1]) rfl rfl ?_
        refine wp_s (i := .bipush 7) (n := 2) (pc' := 41) (st' := [dz_I 7, dz_I 0, .ref 1]) rfl rfl ?_
        refine wq_cv (Dq := (D + 4)) (r' := mm_r36) (as0 := [dz_I 0, dz_I 7]) (rest := []) (ls' := [some (.ref 1), some (dz_I 0), some (dz_I 7)]) (pc' := 44) rfl rfl rfl rfl ho_R rfl rfl rfl ?_
        refine jw_R_needsNumber (X := X) (D := D + 2) 0 7 q1.2 (dz_pm (dz_bi H) (fun q11 H => ?_))
        show mm_Wp X (D + 5) mm_r40 44 [some (.ref 1), some (dz_I a1), none] [dz_B q11.1] (hz_0 q11.2) Q
        refine wq_st (k := 2) (i := .istore_n 2) (n := 1) (ls' := [some (.ref 1), some (dz_I a1), some (dz_B q11.1)]) (pc' := 45) rfl rfl rfl rfl rfl ?_
        refine wp_s (i := .aload_n 0) (n := 1) (pc' := 46) (st' := [.ref 1]) rfl rfl ?_
        refine wp_s (i := .dup) (n := 1) (pc' := 47) (st' := [.ref 1, .ref 1]) rfl rfl ?_
        refine wq_gi (idx := 87) (pc' := 50) rfl rfl ho_R rfl rfl ?_
        refine wp_s (i := .bipush 10) (n := 2) (pc' := 52) (st' := [dz_I 10, dz_I (q11.2 1 9 0), .ref 1]) rfl rfl ?_
        refine wq_2 (i := .iadd) (z := (q11.2 1 9 0) + 10) (pc' := 53) rfl rfl (op_add _ _) rfl ?_
        refine wq_pi (idx := 87) (x := (q11.2 1 9 0) + 10) (pc' := 56) rfl rfl rfl ho_R rfl rfl rfl rfl (fun Z12 eZ12 => ?_)
        replace H := dz_le H Z12 eZ12
        clear eZ12
        refine wp_s (i := .iload_n 2) (n := 1) (pc' := 57) (st' := [dz_B q11.1]) rfl rfl ?_
        refine wq_rb rfl rfl ?_
        replace H := dz_sm H
        exact H
    · replace H := dz_if c4 H
      refine wp_s (i := .aload_n 0) (n := 1) (pc' := 20) (st' := [.ref 1]) rfl rfl ?_
      refine wp_s (i := .iload_n 1) (n := 1) (pc' := 21) (st' := [dz_I a1, .ref 1]) rfl rfl ?_
      refine wp_s (i := .iconst 1) (n := 1) (pc' := 22) (st' := [dz_I 1, dz_I a1, .ref 1]) rfl rfl ?_
      refine wq_2 (i := .iadd) (z := a1 + 1) (pc' := 23) rfl rfl (op_add _ _) rfl ?_
      refine wp_s (i := .iconst 4) (n := 1) (pc' := 24) (st' := [dz_I 4, dz_I (a1 + 1), .ref 1]) rfl rfl ?_
      refine wq_cv (Dq := (D + 4)) (r' := mm_r36) (as0 := [dz_I (a1 + 1), dz_I 4]) (rest := []) (ls' := [some (.ref 1), some (dz_I (a1 + 1)), some (dz_I 4)]) (pc' := 27) rfl rfl rfl rfl ho_R rfl rfl rfl ?_
      refine jw_R_needsNumber (X := X) (D := D + 2) (a1 + 1) 4 q1.2 (dz_pm (dz_bi H) (fun q13 H => ?_))
      show mm_Wp X (D + 5) mm_r40 27 [some (.ref 1), some (dz_I a1), none] [dz_B q13.1] (hz_0 q13.2) Q
      refine wq_rb rfl rfl ?_
      replace H := dz_sm H
      exact H
  · replace H := dz_if c2 H
    refine wp_s (i := .iconst 0) (n := 1) (pc' := 9) (st' := [dz_I 0]) rfl rfl ?_
    refine wq_rf rfl rfl ?_
    replace H := dz_sm H
    exact H
-- 39
def jf_R_readPeg (Z : dz_Z) : Option (Bool × dz_Z) := if hz_isP (Z 1 1 0).toNat then if dz_c (Z ((Z 1 1 0).toNat) 3 0) < 5 then (Option.bind (jf_R_readWay (Z ((Z 1 1 0).toNat) 3 0) Z) fun q3 => if q3.1 = true then (if hz_isP (q3.2 1 1 0).toNat then if 0 ≤ dz_c (Z ((Z 1 1 0).toNat) 3 0) ∧ dz_c (Z ((Z 1 1 0).toNat) 3 0) < 5 then dz_a (dz_u q3.2 ((q3.2 1 1 0).toNat) 4 (dz_c (Z ((Z 1 1 0).toNat) 3 0)) (q3.2 1 9 0)) fun Z7 => Option.bind (jf_R_readWay (Z ((Z 1 1 0).toNat) 3 0) Z7) fun q8 => if q8.1 = true then (if hz_isP (q8.2 1 1 0).toNat then dz_a (dz_u q8.2 ((q8.2 1 1 0).toNat) 5 (dz_c (Z ((Z 1 1 0).toNat) 3 0)) (q8.2 1 9 0)) fun Z11 => if hz_isP (Z11 1 1 0).toNat then dz_a (dz_u Z11 ((Z11 1 1 0).toNat) 3 0 ((Z11 ((Z11 1 1 0).toNat) 3 0) + 1)) fun Z13 => Option.bind (jf_R_needs 4 Z13) fun q14 => some (q14.1, q14.2) else none else none) else (some (false, q8.2)) else none else none) else (some (false, q3.2))) else (Option.bind (jf_R_fail 5 Z) fun q15 => some (q15.1, q15.2)) else none
set_option maxRecDepth 20000 in
theorem jw_R_readPeg {X : Option (List Int32)} {D : Nat} {Q : Option Value → mm_H → Prop} (Z : dz_Z) (H : dz_p (jf_R_readPeg Z) (fun q => Q (some (dz_B q.1)) (hz_0 q.2))) : mm_Wp X (D + 6) mm_r39 0 [some (.ref 1), none] [] (hz_0 Z) Q := by
  unfold jf_R_readPeg at H
  refine wp_s (i := .aload_n 0) (n := 1) (pc' := 1) (st' := [.ref 1]) rfl rfl ?_
  obtain ⟨k1, H⟩ := dz_ck H
  refine wq_gd (idx := 21) (pc' := 4) rfl rfl ho_R rfl rfl ?_
  refine wq_gi (idx := 149) (pc' := 7) rfl rfl (ho_P k1) rfl rfl ?_
  refine wq_st (k := 1) (i := .istore_n 1) (n := 1) (ls' := [some (.ref 1), some (dz_I (Z ((Z 1 1 0).toNat) 3 0))]) (pc' := 8) rfl rfl rfl rfl rfl ?_
  refine wp_s (i := .iload_n 1) (n := 1) (pc' := 9) (st' := [dz_I (Z ((Z 1 1 0).toNat) 3 0)]) rfl rfl ?_
  refine wp_s (i := .iconst 5) (n := 1) (pc' := 10) (st' := [dz_I 5, dz_I (Z ((Z 1 1 0).toNat) 3 0)]) rfl rfl ?_
  refine wq_ic (p := dz_c (Z ((Z 1 1 0).toNat) 3 0) < 5) (tt := 19) (pc' := 13) rfl rfl (cq_lt rfl dk_5) rfl (fun c2 => ?_) (fun c2 => ?_)
  · replace H := dz_it c2 H
    refine wp_s (i := .aload_n 0) (n := 1) (pc' := 20) (st' := [.ref 1]) rfl rfl ?_
    refine wp_s (i := .iload_n 1) (n := 1) (pc' := 21) (st' := [dz_I (Z ((Z 1 1 0).toNat) 3 0), .ref 1]) rfl rfl ?_
    refine wq_cv (Dq := (D + 5)) (r' := mm_r40) (as0 := [dz_I (Z ((Z 1 1 0).toNat) 3 0)]) (rest := []) (ls' := [some (.ref 1), some (dz_I (Z ((Z 1 1 0).toNat) 3 0)), none]) (pc' := 24) rfl rfl rfl rfl ho_R rfl rfl rfl ?_
    refine jw_R_readWay (X := X) (D := D + 0) (Z ((Z 1 1 0).toNat) 3 0) Z (dz_pm (dz_bi H) (fun q3 H => ?_))
    show mm_Wp X (D + 6) mm_r39 24 [some (.ref 1), some (dz_I (Z ((Z 1 1 0).toNat) 3 0))] [dz_B q3.1] (hz_0 q3.2) Q
    refine wq_if (p := q3.1 = true) (tt := 29) (pc' := 27) rfl rfl (cb_ne) rfl (fun c4 => ?_) (fun c4 => ?_)
    · replace H := dz_it c4 H
      refine wp_s (i := .aload_n 0) (n := 1) (pc' := 30) (st' := [.ref 1]) rfl rfl ?_
      obtain ⟨k5, H⟩ := dz_ck H
      refine wq_gd (idx := 21) (pc' := 33) rfl rfl ho_R rfl rfl ?_
      refine wq_gr (idx := 155) (a := (q3.2 1 1 0).toNat + 3) (pc' := 36) rfl rfl (ho_P k5) rfl rfl ?_
      refine wp_s (i := .iload_n 1) (n := 1) (pc' := 37) (st' := [dz_I (Z ((Z 1 1 0).toNat) 3 0), .ref ((q3.2 1 1 0).toNat + 3)]) rfl rfl ?_
      refine wp_s (i := .aload_n 0) (n := 1) (pc' := 38) (st' := [.ref 1, dz_I (Z ((Z 1 1 0).toNat) 3 0), .ref ((q3.2 1 1 0).toNat + 3)]) rfl rfl ?_
      refine wq_gi (idx := 87) (pc' := 41) rfl rfl ho_R rfl rfl ?_
      obtain ⟨k6, H⟩ := dz_ck H
      refine wq_is (j' := dz_c (Z ((Z 1 1 0).toNat) 3 0)) (x := q3.2 1 9 0) (pc' := 42) rfl (ha_P_4 k5) rfl k6.1 k6.2 rfl (fun Z7 eZ7 => ?_)
      replace H := dz_le H Z7 eZ7
      clear eZ7
      refine wp_s (i := .aload_n 0) (n := 1) (pc' := 43) (st' := [.ref 1]) rfl rfl ?_
      refine wp_s (i := .iload_n 1) (n := 1) (pc' := 44) (st' := [dz_I (Z ((Z 1 1 0).toNat) 3 0), .ref 1]) rfl rfl ?_
      refine wq_cv (Dq := (D + 5)) (r' := mm_r40) (as0 := [dz_I (Z ((Z 1 1 0).toNat) 3 0)]) (rest := []) (ls' := [some (.ref 1), some (dz_I (Z ((Z 1 1 0).toNat) 3 0)), none]) (pc' := 47) rfl rfl rfl rfl ho_R rfl rfl rfl ?_
      refine jw_R_readWay (X := X) (D := D + 0) (Z ((Z 1 1 0).toNat) 3 0) Z7 (dz_pm (dz_bi H) (fun q8 H => ?_))
      show mm_Wp X (D + 6) mm_r39 47 [some (.ref 1), some (dz_I (Z ((Z 1 1 0).toNat) 3 0))] [dz_B q8.1] (hz_0 q8.2) Q
      refine wq_if (p := q8.1 = true) (tt := 52) (pc' := 50) rfl rfl (cb_ne) rfl (fun c9 => ?_) (fun c9 => ?_)
      · replace H := dz_it c9 H
        refine wp_s (i := .aload_n 0) (n := 1) (pc' := 53) (st' := [.ref 1]) rfl rfl ?_
        obtain ⟨k10, H⟩ := dz_ck H
        refine wq_gd (idx := 21) (pc' := 56) rfl rfl ho_R rfl rfl ?_
        refine wq_gr (idx := 158) (a := (q8.2 1 1 0).toNat + 4) (pc' := 59) rfl rfl (ho_P k10) rfl rfl ?_
        refine wp_s (i := .iload_n 1) (n := 1) (pc' := 60) (st' := [dz_I (Z ((Z 1 1 0).toNat) 3 0), .ref ((q8.2 1 1 0).toNat + 4)]) rfl rfl ?_
        refine wp_s (i := .aload_n 0) (n := 1) (pc' := 61) (st' := [.ref 1, dz_I (Z ((Z 1 1 0).toNat) 3 0), .ref ((q8.2 1 1 0).toNat + 4)]) rfl rfl ?_
        refine wq_gi (idx := 87) (pc' := 64) rfl rfl ho_R rfl rfl ?_
        refine wq_is (j' := dz_c (Z ((Z 1 1 0).toNat) 3 0)) (x := q8.2 1 9 0) (pc' := 65) rfl (ha_P_5 k10) rfl k6.1 k6.2 rfl (fun Z11 eZ11 => ?_)
        replace H := dz_le H Z11 eZ11
        clear eZ11
        refine wp_s (i := .aload_n 0) (n := 1) (pc' := 66) (st' := [.ref 1]) rfl rfl ?_
        obtain ⟨k12, H⟩ := dz_ck H
        refine wq_gd (idx := 21) (pc' := 69) rfl rfl ho_R rfl rfl ?_
        refine wp_s (i := .dup) (n := 1) (pc' := 70) (st' := [.ref ((Z11 1 1 0).toNat), .ref ((Z11 1 1 0).toNat)]) rfl rfl ?_
        refine wq_gi (idx := 149) (pc' := 73) rfl rfl (ho_P k12) rfl rfl ?_
        refine wp_s (i := .iconst 1) (n := 1) (pc' := 74) (st' := [dz_I 1, dz_I (Z11 ((Z11 1 1 0).toNat) 3 0), .ref ((Z11 1 1 0).toNat)]) rfl rfl ?_
        refine wq_2 (i := .iadd) (z := (Z11 ((Z11 1 1 0).toNat) 3 0) + 1) (pc' := 75) rfl rfl (op_add _ _) rfl ?_
        refine wq_pi (idx := 149) (x := (Z11 ((Z11 1 1 0).toNat) 3 0) + 1) (pc' := 78) rfl rfl rfl (ho_P k12) rfl rfl rfl rfl (fun Z13 eZ13 => ?_)
        replace H := dz_le H Z13 eZ13
        clear eZ13
        refine wp_s (i := .aload_n 0) (n := 1) (pc' := 79) (st' := [.ref 1]) rfl rfl ?_
        refine wp_s (i := .iconst 4) (n := 1) (pc' := 80) (st' := [dz_I 4, .ref 1]) rfl rfl ?_
        refine wq_cv (Dq := (D + 5)) (r' := mm_r35) (as0 := [dz_I 4]) (rest := []) (ls' := [some (.ref 1), some (dz_I 4)]) (pc' := 83) rfl rfl rfl rfl ho_R rfl rfl rfl ?_
        refine jw_R_needs (X := X) (D := D + 3) 4 Z13 (dz_pm (dz_bi H) (fun q14 H => ?_))
        show mm_Wp X (D + 6) mm_r39 83 [some (.ref 1), some (dz_I (Z ((Z 1 1 0).toNat) 3 0))] [dz_B q14.1] (hz_0 q14.2) Q
        refine wq_rb rfl rfl ?_
        replace H := dz_sm H
        exact H
      · replace H := dz_if c9 H
        refine wp_s (i := .iconst 0) (n := 1) (pc' := 51) (st' := [dz_I 0]) rfl rfl ?_
        refine wq_rf rfl rfl ?_
        replace H := dz_sm H
        exact H
    · replace H := dz_if c4 H
      refine wp_s (i := .iconst 0) (n := 1) (pc' := 28) (st' := [dz_I 0]) rfl rfl ?_
      refine wq_rf rfl rfl ?_
      replace H := dz_sm H
      exact H
  · replace H := dz_if c2 H
    refine wp_s (i := .aload_n 0) (n := 1) (pc' := 14) (st' := [.ref 1]) rfl rfl ?_
    refine wp_s (i := .iconst 5) (n := 1) (pc' := 15) (st' := [dz_I 5, .ref 1]) rfl rfl ?_
    refine wq_cv (Dq := (D + 5)) (r' := mm_r30) (as0 := [dz_I 5]) (rest := []) (ls' := [some (.ref 1), some (dz_I 5)]) (pc' := 18) rfl rfl rfl rfl ho_R rfl rfl rfl ?_
    refine jw_R_fail (X := X) (D := D + 5) 5 Z (dz_pm (dz_bi H) (fun q15 H => ?_))
    show mm_Wp X (D + 6) mm_r39 18 [some (.ref 1), some (dz_I (Z ((Z 1 1 0).toNat) 3 0))] [dz_B q15.1] (hz_0 q15.2) Q
    refine wq_rb rfl rfl ?_
    replace H := dz_sm H
    exact H
-- 43
def jf_R_namedKind (Z : dz_Z) : Option (Int) := Option.bind (jf_R_isNamed 5 Z) fun q1 => if q1 = false then (Option.bind (jf_R_isNamed 6 Z) fun q3 => if q3 = false then (Option.bind (jf_R_isNamed 7 Z) fun q5 => if q5 = false then (Option.bind (jf_R_isNamed 8 Z) fun q7 => if q7 = false then (Option.bind (jf_R_isNamed 9 Z) fun q9 => if q9 = false then (Option.bind (jf_R_isNamed 10 Z) fun q11 => if q11 = false then (some (-4)) else (some 5)) else (some 4)) else (some 3)) else (some 2)) else (some 1)) else (some 0)
set_option maxRecDepth 20000 in
theorem jw_R_namedKind {X : Option (List Int32)} {D : Nat} {Q : Option Value → mm_H → Prop} (Z : dz_Z) (H : dz_p (jf_R_namedKind Z) (fun q => Q (some (dz_I q)) (hz_0 Z))) : mm_Wp X (D + 5) mm_r43 0 [some (.ref 1)] [] (hz_0 Z) Q := by
  unfold jf_R_namedKind at H
  refine wp_s (i := .aload_n 0) (n := 1) (pc' := 1) (st' := [.ref 1]) rfl rfl ?_
  refine wp_s (i := .ldc 189) (n := 2) (pc' := 3) (st' := [.retAddr (1 + 5), .ref 1]) rfl rfl ?_
  refine wq_cv (Dq := (D + 4)) (r' := mm_r34) (as0 := [.retAddr (1 + 5)]) (rest := []) (ls' := [some (.ref 1), some (.retAddr (1 + 5)), none]) (pc' := 6) rfl rfl rfl rfl ho_R rfl rfl rfl ?_
  refine jw_R_isNamed (X := X) (D := D + 0) 5 (by decide) Z (dz_pm (dz_bi H) (fun q1 H => ?_))
  show mm_Wp X (D + 5) mm_r43 6 [some (.ref 1)] [dz_B q1] (hz_0 Z) Q
  refine wq_if (p := q1 = false) (tt := 11) (pc' := 9) rfl rfl (cb_eq) rfl (fun c2 => ?_) (fun c2 => ?_)
  · replace H := dz_it c2 H
    refine wp_s (i := .aload_n 0) (n := 1) (pc' := 12) (st' := [.ref 1]) rfl rfl ?_
    refine wp_s (i := .ldc 191) (n := 2) (pc' := 14) (st' := [.retAddr (1 + 6), .ref 1]) rfl rfl ?_
    refine wq_cv (Dq := (D + 4)) (r' := mm_r34) (as0 := [.retAddr (1 + 6)]) (rest := []) (ls' := [some (.ref 1), some (.retAddr (1 + 6)), none]) (pc' := 17) rfl rfl rfl rfl ho_R rfl rfl rfl ?_
    refine jw_R_isNamed (X := X) (D := D + 0) 6 (by decide) Z (dz_pm (dz_bi H) (fun q3 H => ?_))
    show mm_Wp X (D + 5) mm_r43 17 [some (.ref 1)] [dz_B q3] (hz_0 Z) Q
    refine wq_if (p := q3 = false) (tt := 22) (pc' := 20) rfl rfl (cb_eq) rfl (fun c4 => ?_) (fun c4 => ?_)
    · replace H := dz_it c4 H
      refine wp_s (i := .aload_n 0) (n := 1) (pc' := 23) (st' := [.ref 1]) rfl rfl ?_
      refine wp_s (i := .ldc 193) (n := 2) (pc' := 25) (st' := [.retAddr (1 + 7), .ref 1]) rfl rfl ?_
      refine wq_cv (Dq := (D + 4)) (r' := mm_r34) (as0 := [.retAddr (1 + 7)]) (rest := []) (ls' := [some (.ref 1), some (.retAddr (1 + 7)), none]) (pc' := 28) rfl rfl rfl rfl ho_R rfl rfl rfl ?_
      refine jw_R_isNamed (X := X) (D := D + 0) 7 (by decide) Z (dz_pm (dz_bi H) (fun q5 H => ?_))
      show mm_Wp X (D + 5) mm_r43 28 [some (.ref 1)] [dz_B q5] (hz_0 Z) Q
      refine wq_if (p := q5 = false) (tt := 33) (pc' := 31) rfl rfl (cb_eq) rfl (fun c6 => ?_) (fun c6 => ?_)
      · replace H := dz_it c6 H
        refine wp_s (i := .aload_n 0) (n := 1) (pc' := 34) (st' := [.ref 1]) rfl rfl ?_
        refine wp_s (i := .ldc 195) (n := 2) (pc' := 36) (st' := [.retAddr (1 + 8), .ref 1]) rfl rfl ?_
        refine wq_cv (Dq := (D + 4)) (r' := mm_r34) (as0 := [.retAddr (1 + 8)]) (rest := []) (ls' := [some (.ref 1), some (.retAddr (1 + 8)), none]) (pc' := 39) rfl rfl rfl rfl ho_R rfl rfl rfl ?_
        refine jw_R_isNamed (X := X) (D := D + 0) 8 (by decide) Z (dz_pm (dz_bi H) (fun q7 H => ?_))
        show mm_Wp X (D + 5) mm_r43 39 [some (.ref 1)] [dz_B q7] (hz_0 Z) Q
        refine wq_if (p := q7 = false) (tt := 44) (pc' := 42) rfl rfl (cb_eq) rfl (fun c8 => ?_) (fun c8 => ?_)
        · replace H := dz_it c8 H
          refine wp_s (i := .aload_n 0) (n := 1) (pc' := 45) (st' := [.ref 1]) rfl rfl ?_
          refine wp_s (i := .ldc 197) (n := 2) (pc' := 47) (st' := [.retAddr (1 + 9), .ref 1]) rfl rfl ?_
          refine wq_cv (Dq := (D + 4)) (r' := mm_r34) (as0 := [.retAddr (1 + 9)]) (rest := []) (ls' := [some (.ref 1), some (.retAddr (1 + 9)), none]) (pc' := 50) rfl rfl rfl rfl ho_R rfl rfl rfl ?_
          refine jw_R_isNamed (X := X) (D := D + 0) 9 (by decide) Z (dz_pm (dz_bi H) (fun q9 H => ?_))
          show mm_Wp X (D + 5) mm_r43 50 [some (.ref 1)] [dz_B q9] (hz_0 Z) Q
          refine wq_if (p := q9 = false) (tt := 55) (pc' := 53) rfl rfl (cb_eq) rfl (fun c10 => ?_) (fun c10 => ?_)
          · replace H := dz_it c10 H
            refine wp_s (i := .aload_n 0) (n := 1) (pc' := 56) (st' := [.ref 1]) rfl rfl ?_
            refine wp_s (i := .ldc 199) (n := 2) (pc' := 58) (st' := [.retAddr (1 + 10), .ref 1]) rfl rfl ?_
            refine wq_cv (Dq := (D + 4)) (r' := mm_r34) (as0 := [.retAddr (1 + 10)]) (rest := []) (ls' := [some (.ref 1), some (.retAddr (1 + 10)), none]) (pc' := 61) rfl rfl rfl rfl ho_R rfl rfl rfl ?_
            refine jw_R_isNamed (X := X) (D := D + 0) 10 (by decide) Z (dz_pm (dz_bi H) (fun q11 H => ?_))
            show mm_Wp X (D + 5) mm_r43 61 [some (.ref 1)] [dz_B q11] (hz_0 Z) Q
            refine wq_if (p := q11 = false) (tt := 68) (pc' := 64) rfl rfl (cb_eq) rfl (fun c12 => ?_) (fun c12 => ?_)
            · replace H := dz_it c12 H
              refine wp_s (i := .bipush (-4)) (n := 2) (pc' := 70) (st' := [dz_I (-4)]) rfl rfl ?_
              refine wq_ri rfl rfl ?_
              replace H := dz_sm H
              exact H
            · replace H := dz_if c12 H
              refine wp_s (i := .iconst 5) (n := 1) (pc' := 65) (st' := [dz_I 5]) rfl rfl ?_
              refine wp_s (i := .goto 5) (n := 3) (pc' := 70) (st' := [dz_I 5]) rfl rfl ?_
              refine wq_ri rfl rfl ?_
              replace H := dz_sm H
              exact H
          · replace H := dz_if c10 H
            refine wp_s (i := .iconst 4) (n := 1) (pc' := 54) (st' := [dz_I 4]) rfl rfl ?_
            refine wq_ri rfl rfl ?_
            replace H := dz_sm H
            exact H
        · replace H := dz_if c8 H
          refine wp_s (i := .iconst 3) (n := 1) (pc' := 43) (st' := [dz_I 3]) rfl rfl ?_
          refine wq_ri rfl rfl ?_
          replace H := dz_sm H
          exact H
      · replace H := dz_if c6 H
        refine wp_s (i := .iconst 2) (n := 1) (pc' := 32) (st' := [dz_I 2]) rfl rfl ?_
        refine wq_ri rfl rfl ?_
        replace H := dz_sm H
        exact H
    · replace H := dz_if c4 H
      refine wp_s (i := .iconst 1) (n := 1) (pc' := 21) (st' := [dz_I 1]) rfl rfl ?_
      refine wq_ri rfl rfl ?_
      replace H := dz_sm H
      exact H
  · replace H := dz_if c2 H
    refine wp_s (i := .iconst 0) (n := 1) (pc' := 10) (st' := [dz_I 0]) rfl rfl ?_
    refine wq_ri rfl rfl ?_
    replace H := dz_sm H
    exact H
-- 110
def jf_O_hasSize (a1 : Int) : Option (Bool) := if dz_c a1 = 0 then (some false) else (if dz_c a1 = 5 then (some false) else (some true))
set_option maxRecDepth 20000 in
theorem jw_O_hasSize {X : Option (List Int32)} {D : Nat} {Q : Option Value → mm_H → Prop} (a1 : Int) (Z : dz_Z) (H : dz_p (jf_O_hasSize a1) (fun q => Q (some (dz_B q)) (hz_0 Z))) : mm_Wp X D mm_r110 0 [some (dz_I a1)] [] (hz_0 Z) Q := by
  unfold jf_O_hasSize at H
  refine wp_s (i := .iload_n 0) (n := 1) (pc' := 1) (st' := [dz_I a1]) rfl rfl ?_
  refine wq_if (p := dz_c a1 = 0) (tt := 13) (pc' := 4) rfl rfl (cz_eq rfl) rfl (fun c1 => ?_) (fun c1 => ?_)
  · replace H := dz_it c1 H
    refine wp_s (i := .iconst 0) (n := 1) (pc' := 14) (st' := [dz_I 0]) rfl rfl ?_
    refine wq_rf rfl rfl ?_
    replace H := dz_sm H
    exact H
  · replace H := dz_if c1 H
    refine wp_s (i := .iload_n 0) (n := 1) (pc' := 5) (st' := [dz_I a1]) rfl rfl ?_
    refine wp_s (i := .iconst 5) (n := 1) (pc' := 6) (st' := [dz_I 5, dz_I a1]) rfl rfl ?_
    refine wq_ic (p := dz_c a1 = 5) (tt := 13) (pc' := 9) rfl rfl (cq_eq rfl dk_5) rfl (fun c2 => ?_) (fun c2 => ?_)
    · replace H := dz_it c2 H
      refine wp_s (i := .iconst 0) (n := 1) (pc' := 14) (st' := [dz_I 0]) rfl rfl ?_
      refine wq_rf rfl rfl ?_
      replace H := dz_sm H
      exact H
    · replace H := dz_if c2 H
      refine wp_s (i := .iconst 1) (n := 1) (pc' := 10) (st' := [dz_I 1]) rfl rfl ?_
      refine wp_s (i := .goto 4) (n := 3) (pc' := 14) (st' := [dz_I 1]) rfl rfl ?_
      refine wq_rt rfl rfl ?_
      replace H := dz_sm H
      exact H
-- 42
def jf_R_readCup (a1 : Int) (Z : dz_Z) : Option (Bool × dz_Z) := Option.bind (jf_R_needs 2 Z) fun q1 => if q1.1 = true then (Option.bind (jf_R_namedKind q1.2) fun q3 => if dz_c q3 ≠ (-4) then (if hz_isS (q1.2 1 2 0).toNat then if 0 ≤ dz_c a1 ∧ dz_c a1 < 8 then dz_a (dz_u q1.2 ((q1.2 1 2 0).toNat) 2 (dz_c a1) q3) fun Z7 => Option.bind (jf_O_hasSize q3) fun q8 => if q8 = true then (Option.bind (jf_R_needsNumber 1 30 Z7) fun q10 => if q10.1 = true then (if hz_isP (q10.2 1 1 0).toNat then dz_a (dz_u q10.2 ((q10.2 1 1 0).toNat) 8 (dz_c a1) (q10.2 1 9 0)) fun Z13 => if dz_c q3 = 4 then (Option.bind (jf_R_needsNumber 0 7 Z13) fun q15 => if q15.1 = true then (if hz_isP (q15.2 1 1 0).toNat then dz_a (dz_u q15.2 ((q15.2 1 1 0).toNat) 9 (dz_c a1) (q15.2 1 9 0)) fun Z18 => if dz_c (Z18 1 9 0) ≠ dz_c a1 then (some (true, Z18)) else (Option.bind (jf_R_fail 3 Z18) fun q20 => if q20.1 = false then (some (false, q20.2)) else (some (true, q20.2))) else none) else (some (false, q15.2))) else (some (true, Z13)) else none) else (some (false, q10.2))) else (some (true, Z7)) else none else none) else (Option.bind (jf_R_fail 2 q1.2) fun q22 => some (q22.1, q22.2))) else (some (false, q1.2))
set_option maxRecDepth 20000 in
theorem jw_R_readCup {X : Option (List Int32)} {D : Nat} {Q : Option Value → mm_H → Prop} (a1 : Int) (Z : dz_Z) (H : dz_p (jf_R_readCup a1 Z) (fun q => Q (some (dz_B q.1)) (hz_0 q.2))) : mm_Wp X (D + 6) mm_r42 0 [some (.ref 1), some (dz_I a1), none] [] (hz_0 Z) Q := by
  unfold jf_R_readCup at H
  refine wp_s (i := .aload_n 0) (n := 1) (pc' := 1) (st' := [.ref 1]) rfl rfl ?_
  refine wp_s (i := .iconst 2) (n := 1) (pc' := 2) (st' := [dz_I 2, .ref 1]) rfl rfl ?_
  refine wq_cv (Dq := (D + 5)) (r' := mm_r35) (as0 := [dz_I 2]) (rest := []) (ls' := [some (.ref 1), some (dz_I 2)]) (pc' := 5) rfl rfl rfl rfl ho_R rfl rfl rfl ?_
  refine jw_R_needs (X := X) (D := D + 3) 2 Z (dz_pm (dz_bi H) (fun q1 H => ?_))
  show mm_Wp X (D + 6) mm_r42 5 [some (.ref 1), some (dz_I a1), none] [dz_B q1.1] (hz_0 q1.2) Q
  refine wq_if (p := q1.1 = true) (tt := 10) (pc' := 8) rfl rfl (cb_ne) rfl (fun c2 => ?_) (fun c2 => ?_)
  · replace H := dz_it c2 H
    refine wp_s (i := .aload_n 0) (n := 1) (pc' := 11) (st' := [.ref 1]) rfl rfl ?_
    refine wq_cv (Dq := (D + 5)) (r' := mm_r43) (as0 := []) (rest := []) (ls' := [some (.ref 1)]) (pc' := 14) rfl rfl rfl rfl ho_R rfl rfl rfl ?_
    refine jw_R_namedKind (X := X) (D := D + 0) q1.2 (dz_pm (dz_bi H) (fun q3 H => ?_))
    show mm_Wp X (D + 6) mm_r42 14 [some (.ref 1), some (dz_I a1), none] [dz_I q3] (hz_0 q1.2) Q
    refine wq_st (k := 2) (i := .istore_n 2) (n := 1) (ls' := [some (.ref 1), some (dz_I a1), some (dz_I q3)]) (pc' := 15) rfl rfl rfl rfl rfl ?_
    refine wp_s (i := .iload_n 2) (n := 1) (pc' := 16) (st' := [dz_I q3]) rfl rfl ?_
    refine wp_s (i := .bipush (-4)) (n := 2) (pc' := 18) (st' := [dz_I (-4), dz_I q3]) rfl rfl ?_
    refine wq_ic (p := dz_c q3 ≠ (-4)) (tt := 27) (pc' := 21) rfl rfl (cq_ne rfl dk_m4) rfl (fun c4 => ?_) (fun c4 => ?_)
    · replace H := dz_it c4 H
      refine wp_s (i := .aload_n 0) (n := 1) (pc' := 28) (st' := [.ref 1]) rfl rfl ?_
      obtain ⟨k5, H⟩ := dz_ck H
      refine wq_gd (idx := 28) (pc' := 31) rfl rfl ho_R rfl rfl ?_
      refine wq_gr (idx := 177) (a := (q1.2 1 2 0).toNat + 3) (pc' := 34) rfl rfl (ho_S k5) rfl rfl ?_
      refine wp_s (i := .iload_n 1) (n := 1) (pc' := 35) (st' := [dz_I a1, .ref ((q1.2 1 2 0).toNat + 3)]) rfl rfl ?_
      refine wp_s (i := .iload_n 2) (n := 1) (pc' := 36) (st' := [dz_I q3, dz_I a1, .ref ((q1.2 1 2 0).toNat + 3)]) rfl rfl ?_
      obtain ⟨k6, H⟩ := dz_ck H
      refine wq_is (j' := dz_c a1) (x := q3) (pc' := 37) rfl (ha_S_2 k5) rfl k6.1 k6.2 rfl (fun Z7 eZ7 => ?_)
      replace H := dz_le H Z7 eZ7
      clear eZ7
      refine wp_s (i := .iload_n 2) (n := 1) (pc' := 38) (st' := [dz_I q3]) rfl rfl ?_
      refine wq_cs (Dq := (D + 5)) (r' := mm_r110) (as0 := [dz_I q3]) (rest := []) (ls' := [some (dz_I q3)]) (pc' := 41) rfl rfl (by decide) rfl rfl rfl rfl rfl ?_
      refine jw_O_hasSize (X := X) (D := D + 5) q3 Z7 (dz_pm (dz_bi H) (fun q8 H => ?_))
      show mm_Wp X (D + 6) mm_r42 41 [some (.ref 1), some (dz_I a1), some (dz_I q3)] [dz_B q8] (hz_0 Z7) Q
      refine wq_if (p := q8 = true) (tt := 46) (pc' := 44) rfl rfl (cb_ne) rfl (fun c9 => ?_) (fun c9 => ?_)
      · replace H := dz_it c9 H
        refine wp_s (i := .aload_n 0) (n := 1) (pc' := 47) (st' := [.ref 1]) rfl rfl ?_
        refine wp_s (i := .iconst 1) (n := 1) (pc' := 48) (st' := [dz_I 1, .ref 1]) rfl rfl ?_
        refine wp_s (i := .bipush 30) (n := 2) (pc' := 50) (st' := [dz_I 30, dz_I 1, .ref 1]) rfl rfl ?_
        refine wq_cv (Dq := (D + 5)) (r' := mm_r36) (as0 := [dz_I 1, dz_I 30]) (rest := []) (ls' := [some (.ref 1), some (dz_I 1), some (dz_I 30)]) (pc' := 53) rfl rfl rfl rfl ho_R rfl rfl rfl ?_
        refine jw_R_needsNumber (X := X) (D := D + 3) 1 30 Z7 (dz_pm (dz_bi H) (fun q10 H => ?_))
        show mm_Wp X (D + 6) mm_r42 53 [some (.ref 1), some (dz_I a1), some (dz_I q3)] [dz_B q10.1] (hz_0 q10.2) Q
        refine wq_if (p := q10.1 = true) (tt := 58) (pc' := 56) rfl rfl (cb_ne) rfl (fun c11 => ?_) (fun c11 => ?_)
        · replace H := dz_it c11 H
          refine wp_s (i := .aload_n 0) (n := 1) (pc' := 59) (st' := [.ref 1]) rfl rfl ?_
          obtain ⟨k12, H⟩ := dz_ck H
          refine wq_gd (idx := 21) (pc' := 62) rfl rfl ho_R rfl rfl ?_
          refine wq_gr (idx := 183) (a := (q10.2 1 1 0).toNat + 6) (pc' := 65) rfl rfl (ho_P k12) rfl rfl ?_
          refine wp_s (i := .iload_n 1) (n := 1) (pc' := 66) (st' := [dz_I a1, .ref ((q10.2 1 1 0).toNat + 6)]) rfl rfl ?_
          refine wp_s (i := .aload_n 0) (n := 1) (pc' := 67) (st' := [.ref 1, dz_I a1, .ref ((q10.2 1 1 0).toNat + 6)]) rfl rfl ?_
          refine wq_gi (idx := 87) (pc' := 70) rfl rfl ho_R rfl rfl ?_
          refine wq_is (j' := dz_c a1) (x := q10.2 1 9 0) (pc' := 71) rfl (ha_P_8 k12) rfl k6.1 k6.2 rfl (fun Z13 eZ13 => ?_)
          replace H := dz_le H Z13 eZ13
          clear eZ13
          refine wp_s (i := .iload_n 2) (n := 1) (pc' := 72) (st' := [dz_I q3]) rfl rfl ?_
          refine wp_s (i := .iconst 4) (n := 1) (pc' := 73) (st' := [dz_I 4, dz_I q3]) rfl rfl ?_
          refine wq_ic (p := dz_c q3 = 4) (tt := 78) (pc' := 76) rfl rfl (cq_eq rfl dk_4) rfl (fun c14 => ?_) (fun c14 => ?_)
          · replace H := dz_it c14 H
            refine wp_s (i := .aload_n 0) (n := 1) (pc' := 79) (st' := [.ref 1]) rfl rfl ?_
            refine wp_s (i := .iconst 0) (n := 1) (pc' := 80) (st' := [dz_I 0, .ref 1]) rfl rfl ?_
            refine wp_s (i := .bipush 7) (n := 2) (pc' := 82) (st' := [dz_I 7, dz_I 0, .ref 1]) rfl rfl ?_
            refine wq_cv (Dq := (D + 5)) (r' := mm_r36) (as0 := [dz_I 0, dz_I 7]) (rest := []) (ls' := [some (.ref 1), some (dz_I 0), some (dz_I 7)]) (pc' := 85) rfl rfl rfl rfl ho_R rfl rfl rfl ?_
            refine jw_R_needsNumber (X := X) (D := D + 3) 0 7 Z13 (dz_pm (dz_bi H) (fun q15 H => ?_))
            show mm_Wp X (D + 6) mm_r42 85 [some (.ref 1), some (dz_I a1), some (dz_I q3)] [dz_B q15.1] (hz_0 q15.2) Q
            refine wq_if (p := q15.1 = true) (tt := 90) (pc' := 88) rfl rfl (cb_ne) rfl (fun c16 => ?_) (fun c16 => ?_)
            · replace H := dz_it c16 H
              refine wp_s (i := .aload_n 0) (n := 1) (pc' := 91) (st' := [.ref 1]) rfl rfl ?_
              obtain ⟨k17, H⟩ := dz_ck H
              refine wq_gd (idx := 21) (pc' := 94) rfl rfl ho_R rfl rfl ?_
              refine wq_gr (idx := 186) (a := (q15.2 1 1 0).toNat + 7) (pc' := 97) rfl rfl (ho_P k17) rfl rfl ?_
              refine wp_s (i := .iload_n 1) (n := 1) (pc' := 98) (st' := [dz_I a1, .ref ((q15.2 1 1 0).toNat + 7)]) rfl rfl ?_
              refine wp_s (i := .aload_n 0) (n := 1) (pc' := 99) (st' := [.ref 1, dz_I a1, .ref ((q15.2 1 1 0).toNat + 7)]) rfl rfl ?_
              refine wq_gi (idx := 87) (pc' := 102) rfl rfl ho_R rfl rfl ?_
              refine wq_is (j' := dz_c a1) (x := q15.2 1 9 0) (pc' := 103) rfl (ha_P_9 k17) rfl k6.1 k6.2 rfl (fun Z18 eZ18 => ?_)
              replace H := dz_le H Z18 eZ18
              clear eZ18
              refine wp_s (i := .aload_n 0) (n := 1) (pc' := 104) (st' := [.ref 1]) rfl rfl ?_
              refine wq_gi (idx := 87) (pc' := 107) rfl rfl ho_R rfl rfl ?_
              refine wp_s (i := .iload_n 1) (n := 1) (pc' := 108) (st' := [dz_I a1, dz_I (Z18 1 9 0)]) rfl rfl ?_
              refine wq_ic (p := dz_c (Z18 1 9 0) ≠ dz_c a1) (tt := 119) (pc' := 111) rfl rfl (cq_ne rfl rfl) rfl (fun c19 => ?_) (fun c19 => ?_)
              · replace H := dz_it c19 H
                refine wp_s (i := .iconst 1) (n := 1) (pc' := 120) (st' := [dz_I 1]) rfl rfl ?_
                refine wp_s (i := .goto 4) (n := 3) (pc' := 124) (st' := [dz_I 1]) rfl rfl ?_
                refine wq_rt rfl rfl ?_
                replace H := dz_sm H
                exact H
              · replace H := dz_if c19 H
                refine wp_s (i := .aload_n 0) (n := 1) (pc' := 112) (st' := [.ref 1]) rfl rfl ?_
                refine wp_s (i := .iconst 3) (n := 1) (pc' := 113) (st' := [dz_I 3, .ref 1]) rfl rfl ?_
                refine wq_cv (Dq := (D + 5)) (r' := mm_r30) (as0 := [dz_I 3]) (rest := []) (ls' := [some (.ref 1), some (dz_I 3)]) (pc' := 116) rfl rfl rfl rfl ho_R rfl rfl rfl ?_
                refine jw_R_fail (X := X) (D := D + 5) 3 Z18 (dz_pm (dz_bi H) (fun q20 H => ?_))
                show mm_Wp X (D + 6) mm_r42 116 [some (.ref 1), some (dz_I a1), some (dz_I q3)] [dz_B q20.1] (hz_0 q20.2) Q
                refine wq_if (p := q20.1 = false) (tt := 123) (pc' := 119) rfl rfl (cb_eq) rfl (fun c21 => ?_) (fun c21 => ?_)
                · replace H := dz_it c21 H
                  refine wp_s (i := .iconst 0) (n := 1) (pc' := 124) (st' := [dz_I 0]) rfl rfl ?_
                  refine wq_rf rfl rfl ?_
                  replace H := dz_sm H
                  exact H
                · replace H := dz_if c21 H
                  refine wp_s (i := .iconst 1) (n := 1) (pc' := 120) (st' := [dz_I 1]) rfl rfl ?_
                  refine wp_s (i := .goto 4) (n := 3) (pc' := 124) (st' := [dz_I 1]) rfl rfl ?_
                  refine wq_rt rfl rfl ?_
                  replace H := dz_sm H
                  exact H
            · replace H := dz_if c16 H
              refine wp_s (i := .iconst 0) (n := 1) (pc' := 89) (st' := [dz_I 0]) rfl rfl ?_
              refine wq_rf rfl rfl ?_
              replace H := dz_sm H
              exact H
          · replace H := dz_if c14 H
            refine wp_s (i := .iconst 1) (n := 1) (pc' := 77) (st' := [dz_I 1]) rfl rfl ?_
            refine wq_rt rfl rfl ?_
            replace H := dz_sm H
            exact H
        · replace H := dz_if c11 H
          refine wp_s (i := .iconst 0) (n := 1) (pc' := 57) (st' := [dz_I 0]) rfl rfl ?_
          refine wq_rf rfl rfl ?_
          replace H := dz_sm H
          exact H
      · replace H := dz_if c9 H
        refine wp_s (i := .iconst 1) (n := 1) (pc' := 45) (st' := [dz_I 1]) rfl rfl ?_
        refine wq_rt rfl rfl ?_
        replace H := dz_sm H
        exact H
    · replace H := dz_if c4 H
      refine wp_s (i := .aload_n 0) (n := 1) (pc' := 22) (st' := [.ref 1]) rfl rfl ?_
      refine wp_s (i := .iconst 2) (n := 1) (pc' := 23) (st' := [dz_I 2, .ref 1]) rfl rfl ?_
      refine wq_cv (Dq := (D + 5)) (r' := mm_r30) (as0 := [dz_I 2]) (rest := []) (ls' := [some (.ref 1), some (dz_I 2)]) (pc' := 26) rfl rfl rfl rfl ho_R rfl rfl rfl ?_
      refine jw_R_fail (X := X) (D := D + 5) 2 q1.2 (dz_pm (dz_bi H) (fun q22 H => ?_))
      show mm_Wp X (D + 6) mm_r42 26 [some (.ref 1), some (dz_I a1), some (dz_I q3)] [dz_B q22.1] (hz_0 q22.2) Q
      refine wq_rb rfl rfl ?_
      replace H := dz_sm H
      exact H
  · replace H := dz_if c2 H
    refine wp_s (i := .iconst 0) (n := 1) (pc' := 9) (st' := [dz_I 0]) rfl rfl ?_
    refine wq_rf rfl rfl ?_
    replace H := dz_sm H
    exact H
-- 41
def jf_R_readSpout (Z : dz_Z) : Option (Bool × dz_Z) := if hz_isP (Z 1 1 0).toNat then if dz_c (Z ((Z 1 1 0).toNat) 6 0) < 8 then (Option.bind (jf_R_needsNumber 0 7 Z) fun q3 => if q3.1 = true then (if hz_isP (q3.2 1 1 0).toNat then if 0 ≤ dz_c (Z ((Z 1 1 0).toNat) 6 0) ∧ dz_c (Z ((Z 1 1 0).toNat) 6 0) < 8 then dz_a (dz_u q3.2 ((q3.2 1 1 0).toNat) 7 (dz_c (Z ((Z 1 1 0).toNat) 6 0)) (q3.2 1 9 0)) fun Z7 => Option.bind (jf_R_readCup (Z ((Z 1 1 0).toNat) 6 0) Z7) fun q8 => if q8.1 = true then (if hz_isP (q8.2 1 1 0).toNat then dz_a (dz_u q8.2 ((q8.2 1 1 0).toNat) 6 0 ((q8.2 ((q8.2 1 1 0).toNat) 6 0) + 1)) fun Z11 => Option.bind (jf_R_needs 4 Z11) fun q12 => some (q12.1, q12.2) else none) else (some (false, q8.2)) else none else none) else (some (false, q3.2))) else (Option.bind (jf_R_fail 5 Z) fun q13 => some (q13.1, q13.2)) else none
set_option maxRecDepth 20000 in
theorem jw_R_readSpout {X : Option (List Int32)} {D : Nat} {Q : Option Value → mm_H → Prop} (Z : dz_Z) (H : dz_p (jf_R_readSpout Z) (fun q => Q (some (dz_B q.1)) (hz_0 q.2))) : mm_Wp X (D + 7) mm_r41 0 [some (.ref 1), none] [] (hz_0 Z) Q := by
  unfold jf_R_readSpout at H
  refine wp_s (i := .aload_n 0) (n := 1) (pc' := 1) (st' := [.ref 1]) rfl rfl ?_
  obtain ⟨k1, H⟩ := dz_ck H
  refine wq_gd (idx := 21) (pc' := 4) rfl rfl ho_R rfl rfl ?_
  refine wq_gi (idx := 165) (pc' := 7) rfl rfl (ho_P k1) rfl rfl ?_
  refine wq_st (k := 1) (i := .istore_n 1) (n := 1) (ls' := [some (.ref 1), some (dz_I (Z ((Z 1 1 0).toNat) 6 0))]) (pc' := 8) rfl rfl rfl rfl rfl ?_
  refine wp_s (i := .iload_n 1) (n := 1) (pc' := 9) (st' := [dz_I (Z ((Z 1 1 0).toNat) 6 0)]) rfl rfl ?_
  refine wp_s (i := .bipush 8) (n := 2) (pc' := 11) (st' := [dz_I 8, dz_I (Z ((Z 1 1 0).toNat) 6 0)]) rfl rfl ?_
  refine wq_ic (p := dz_c (Z ((Z 1 1 0).toNat) 6 0) < 8) (tt := 20) (pc' := 14) rfl rfl (cq_lt rfl dk_8) rfl (fun c2 => ?_) (fun c2 => ?_)
  · replace H := dz_it c2 H
    refine wp_s (i := .aload_n 0) (n := 1) (pc' := 21) (st' := [.ref 1]) rfl rfl ?_
    refine wp_s (i := .iconst 0) (n := 1) (pc' := 22) (st' := [dz_I 0, .ref 1]) rfl rfl ?_
    refine wp_s (i := .bipush 7) (n := 2) (pc' := 24) (st' := [dz_I 7, dz_I 0, .ref 1]) rfl rfl ?_
    refine wq_cv (Dq := (D + 6)) (r' := mm_r36) (as0 := [dz_I 0, dz_I 7]) (rest := []) (ls' := [some (.ref 1), some (dz_I 0), some (dz_I 7)]) (pc' := 27) rfl rfl rfl rfl ho_R rfl rfl rfl ?_
    refine jw_R_needsNumber (X := X) (D := D + 4) 0 7 Z (dz_pm (dz_bi H) (fun q3 H => ?_))
    show mm_Wp X (D + 7) mm_r41 27 [some (.ref 1), some (dz_I (Z ((Z 1 1 0).toNat) 6 0))] [dz_B q3.1] (hz_0 q3.2) Q
    refine wq_if (p := q3.1 = true) (tt := 32) (pc' := 30) rfl rfl (cb_ne) rfl (fun c4 => ?_) (fun c4 => ?_)
    · replace H := dz_it c4 H
      refine wp_s (i := .aload_n 0) (n := 1) (pc' := 33) (st' := [.ref 1]) rfl rfl ?_
      obtain ⟨k5, H⟩ := dz_ck H
      refine wq_gd (idx := 21) (pc' := 36) rfl rfl ho_R rfl rfl ?_
      refine wq_gr (idx := 168) (a := (q3.2 1 1 0).toNat + 5) (pc' := 39) rfl rfl (ho_P k5) rfl rfl ?_
      refine wp_s (i := .iload_n 1) (n := 1) (pc' := 40) (st' := [dz_I (Z ((Z 1 1 0).toNat) 6 0), .ref ((q3.2 1 1 0).toNat + 5)]) rfl rfl ?_
      refine wp_s (i := .aload_n 0) (n := 1) (pc' := 41) (st' := [.ref 1, dz_I (Z ((Z 1 1 0).toNat) 6 0), .ref ((q3.2 1 1 0).toNat + 5)]) rfl rfl ?_
      refine wq_gi (idx := 87) (pc' := 44) rfl rfl ho_R rfl rfl ?_
      obtain ⟨k6, H⟩ := dz_ck H
      refine wq_is (j' := dz_c (Z ((Z 1 1 0).toNat) 6 0)) (x := q3.2 1 9 0) (pc' := 45) rfl (ha_P_7 k5) rfl k6.1 k6.2 rfl (fun Z7 eZ7 => ?_)
      replace H := dz_le H Z7 eZ7
      clear eZ7
      refine wp_s (i := .aload_n 0) (n := 1) (pc' := 46) (st' := [.ref 1]) rfl rfl ?_
      refine wp_s (i := .iload_n 1) (n := 1) (pc' := 47) (st' := [dz_I (Z ((Z 1 1 0).toNat) 6 0), .ref 1]) rfl rfl ?_
      refine wq_cv (Dq := (D + 6)) (r' := mm_r42) (as0 := [dz_I (Z ((Z 1 1 0).toNat) 6 0)]) (rest := []) (ls' := [some (.ref 1), some (dz_I (Z ((Z 1 1 0).toNat) 6 0)), none]) (pc' := 50) rfl rfl rfl rfl ho_R rfl rfl rfl ?_
      refine jw_R_readCup (X := X) (D := D + 0) (Z ((Z 1 1 0).toNat) 6 0) Z7 (dz_pm (dz_bi H) (fun q8 H => ?_))
      show mm_Wp X (D + 7) mm_r41 50 [some (.ref 1), some (dz_I (Z ((Z 1 1 0).toNat) 6 0))] [dz_B q8.1] (hz_0 q8.2) Q
      refine wq_if (p := q8.1 = true) (tt := 55) (pc' := 53) rfl rfl (cb_ne) rfl (fun c9 => ?_) (fun c9 => ?_)
      · replace H := dz_it c9 H
        refine wp_s (i := .aload_n 0) (n := 1) (pc' := 56) (st' := [.ref 1]) rfl rfl ?_
        obtain ⟨k10, H⟩ := dz_ck H
        refine wq_gd (idx := 21) (pc' := 59) rfl rfl ho_R rfl rfl ?_
        refine wp_s (i := .dup) (n := 1) (pc' := 60) (st' := [.ref ((q8.2 1 1 0).toNat), .ref ((q8.2 1 1 0).toNat)]) rfl rfl ?_
        refine wq_gi (idx := 165) (pc' := 63) rfl rfl (ho_P k10) rfl rfl ?_
        refine wp_s (i := .iconst 1) (n := 1) (pc' := 64) (st' := [dz_I 1, dz_I (q8.2 ((q8.2 1 1 0).toNat) 6 0), .ref ((q8.2 1 1 0).toNat)]) rfl rfl ?_
        refine wq_2 (i := .iadd) (z := (q8.2 ((q8.2 1 1 0).toNat) 6 0) + 1) (pc' := 65) rfl rfl (op_add _ _) rfl ?_
        refine wq_pi (idx := 165) (x := (q8.2 ((q8.2 1 1 0).toNat) 6 0) + 1) (pc' := 68) rfl rfl rfl (ho_P k10) rfl rfl rfl rfl (fun Z11 eZ11 => ?_)
        replace H := dz_le H Z11 eZ11
        clear eZ11
        refine wp_s (i := .aload_n 0) (n := 1) (pc' := 69) (st' := [.ref 1]) rfl rfl ?_
        refine wp_s (i := .iconst 4) (n := 1) (pc' := 70) (st' := [dz_I 4, .ref 1]) rfl rfl ?_
        refine wq_cv (Dq := (D + 6)) (r' := mm_r35) (as0 := [dz_I 4]) (rest := []) (ls' := [some (.ref 1), some (dz_I 4)]) (pc' := 73) rfl rfl rfl rfl ho_R rfl rfl rfl ?_
        refine jw_R_needs (X := X) (D := D + 4) 4 Z11 (dz_pm (dz_bi H) (fun q12 H => ?_))
        show mm_Wp X (D + 7) mm_r41 73 [some (.ref 1), some (dz_I (Z ((Z 1 1 0).toNat) 6 0))] [dz_B q12.1] (hz_0 q12.2) Q
        refine wq_rb rfl rfl ?_
        replace H := dz_sm H
        exact H
      · replace H := dz_if c9 H
        refine wp_s (i := .iconst 0) (n := 1) (pc' := 54) (st' := [dz_I 0]) rfl rfl ?_
        refine wq_rf rfl rfl ?_
        replace H := dz_sm H
        exact H
    · replace H := dz_if c4 H
      refine wp_s (i := .iconst 0) (n := 1) (pc' := 31) (st' := [dz_I 0]) rfl rfl ?_
      refine wq_rf rfl rfl ?_
      replace H := dz_sm H
      exact H
  · replace H := dz_if c2 H
    refine wp_s (i := .aload_n 0) (n := 1) (pc' := 15) (st' := [.ref 1]) rfl rfl ?_
    refine wp_s (i := .iconst 5) (n := 1) (pc' := 16) (st' := [dz_I 5, .ref 1]) rfl rfl ?_
    refine wq_cv (Dq := (D + 6)) (r' := mm_r30) (as0 := [dz_I 5]) (rest := []) (ls' := [some (.ref 1), some (dz_I 5)]) (pc' := 19) rfl rfl rfl rfl ho_R rfl rfl rfl ?_
    refine jw_R_fail (X := X) (D := D + 6) 5 Z (dz_pm (dz_bi H) (fun q13 H => ?_))
    show mm_Wp X (D + 7) mm_r41 19 [some (.ref 1), some (dz_I (Z ((Z 1 1 0).toNat) 6 0))] [dz_B q13.1] (hz_0 q13.2) Q
    refine wq_rb rfl rfl ?_
    replace H := dz_sm H
    exact H
-- 47
def jf_R_isSecond (a1 : Int) (a2 : Int) (Z : dz_Z) : Option (Bool × dz_Z) := if dz_c (Z 1 8 0) = 3 then (Option.bind (jf_R_numberRead Z) fun q2 => dz_a (dz_u Z 1 9 0 q2) fun Z3 => if dz_c (Z3 1 9 0) ≤ dz_c a2 then (if dz_c a1 < 12 then (some (true, Z3)) else (Option.bind (jf_R_fail 5 Z3) fun q6 => if q6.1 = false then (some (false, q6.2)) else (some (true, q6.2)))) else (Option.bind (jf_R_fail 3 Z3) fun q8 => some (q8.1, q8.2))) else (Option.bind (jf_R_fail 2 Z) fun q9 => some (q9.1, q9.2))
set_option maxRecDepth 20000 in
theorem jw_R_isSecond {X : Option (List Int32)} {D : Nat} {Q : Option Value → mm_H → Prop} (a1 : Int) (a2 : Int) (Z : dz_Z) (H : dz_p (jf_R_isSecond a1 a2 Z) (fun q => Q (some (dz_B q.1)) (hz_0 q.2))) : mm_Wp X (D + 1) mm_r47 0 [some (.ref 1), some (dz_I a1), some (dz_I a2)] [] (hz_0 Z) Q := by
  unfold jf_R_isSecond at H
  refine wp_s (i := .aload_n 0) (n := 1) (pc' := 1) (st' := [.ref 1]) rfl rfl ?_
  refine wq_gi (idx := 64) (pc' := 4) rfl rfl ho_R rfl rfl ?_
  refine wp_s (i := .iconst 3) (n := 1) (pc' := 5) (st' := [dz_I 3, dz_I (Z 1 8 0)]) rfl rfl ?_
  refine wq_ic (p := dz_c (Z 1 8 0) = 3) (tt := 14) (pc' := 8) rfl rfl (cq_eq rfl dk_3) rfl (fun c1 => ?_) (fun c1 => ?_)
  · replace H := dz_it c1 H
    refine wp_s (i := .aload_n 0) (n := 1) (pc' := 15) (st' := [.ref 1]) rfl rfl ?_
    refine wp_s (i := .aload_n 0) (n := 1) (pc' := 16) (st' := [.ref 1, .ref 1]) rfl rfl ?_
    refine wq_cv (Dq := D) (r' := mm_r33) (as0 := []) (rest := [.ref 1]) (ls' := [some (.ref 1), none, none]) (pc' := 19) rfl rfl rfl rfl ho_R rfl rfl rfl ?_
    refine jw_R_numberRead (X := X) (D := D + 0) Z (dz_pm (dz_bi H) (fun q2 H => ?_))
    show mm_Wp X (D + 1) mm_r47 19 [some (.ref 1), some (dz_I a1), some (dz_I a2)] [dz_I q2, .ref 1] (hz_0 Z) Q
    refine wq_pi (idx := 87) (x := q2) (pc' := 22) rfl rfl rfl ho_R rfl rfl rfl rfl (fun Z3 eZ3 => ?_)
    replace H := dz_le H Z3 eZ3
    clear eZ3
    refine wp_s (i := .aload_n 0) (n := 1) (pc' := 23) (st' := [.ref 1]) rfl rfl ?_
    refine wq_gi (idx := 87) (pc' := 26) rfl rfl ho_R rfl rfl ?_
    refine wp_s (i := .iload_n 2) (n := 1) (pc' := 27) (st' := [dz_I a2, dz_I (Z3 1 9 0)]) rfl rfl ?_
    refine wq_ic (p := dz_c (Z3 1 9 0) ≤ dz_c a2) (tt := 36) (pc' := 30) rfl rfl (cq_le rfl rfl) rfl (fun c4 => ?_) (fun c4 => ?_)
    · replace H := dz_it c4 H
      refine wp_s (i := .iload_n 1) (n := 1) (pc' := 37) (st' := [dz_I a1]) rfl rfl ?_
      refine wp_s (i := .bipush 12) (n := 2) (pc' := 39) (st' := [dz_I 12, dz_I a1]) rfl rfl ?_
      refine wq_ic (p := dz_c a1 < 12) (tt := 50) (pc' := 42) rfl rfl (cq_lt rfl dk_12) rfl (fun c5 => ?_) (fun c5 => ?_)
      · replace H := dz_it c5 H
        refine wp_s (i := .iconst 1) (n := 1) (pc' := 51) (st' := [dz_I 1]) rfl rfl ?_
        refine wp_s (i := .goto 4) (n := 3) (pc' := 55) (st' := [dz_I 1]) rfl rfl ?_
        refine wq_rt rfl rfl ?_
        replace H := dz_sm H
        exact H
      · replace H := dz_if c5 H
        refine wp_s (i := .aload_n 0) (n := 1) (pc' := 43) (st' := [.ref 1]) rfl rfl ?_
        refine wp_s (i := .iconst 5) (n := 1) (pc' := 44) (st' := [dz_I 5, .ref 1]) rfl rfl ?_
        refine wq_cv (Dq := D) (r' := mm_r30) (as0 := [dz_I 5]) (rest := []) (ls' := [some (.ref 1), some (dz_I 5)]) (pc' := 47) rfl rfl rfl rfl ho_R rfl rfl rfl ?_
        refine jw_R_fail (X := X) (D := D + 0) 5 Z3 (dz_pm (dz_bi H) (fun q6 H => ?_))
        show mm_Wp X (D + 1) mm_r47 47 [some (.ref 1), some (dz_I a1), some (dz_I a2)] [dz_B q6.1] (hz_0 q6.2) Q
        refine wq_if (p := q6.1 = false) (tt := 54) (pc' := 50) rfl rfl (cb_eq) rfl (fun c7 => ?_) (fun c7 => ?_)
        · replace H := dz_it c7 H
          refine wp_s (i := .iconst 0) (n := 1) (pc' := 55) (st' := [dz_I 0]) rfl rfl ?_
          refine wq_rf rfl rfl ?_
          replace H := dz_sm H
          exact H
        · replace H := dz_if c7 H
          refine wp_s (i := .iconst 1) (n := 1) (pc' := 51) (st' := [dz_I 1]) rfl rfl ?_
          refine wp_s (i := .goto 4) (n := 3) (pc' := 55) (st' := [dz_I 1]) rfl rfl ?_
          refine wq_rt rfl rfl ?_
          replace H := dz_sm H
          exact H
    · replace H := dz_if c4 H
      refine wp_s (i := .aload_n 0) (n := 1) (pc' := 31) (st' := [.ref 1]) rfl rfl ?_
      refine wp_s (i := .iconst 3) (n := 1) (pc' := 32) (st' := [dz_I 3, .ref 1]) rfl rfl ?_
      refine wq_cv (Dq := D) (r' := mm_r30) (as0 := [dz_I 3]) (rest := []) (ls' := [some (.ref 1), some (dz_I 3)]) (pc' := 35) rfl rfl rfl rfl ho_R rfl rfl rfl ?_
      refine jw_R_fail (X := X) (D := D + 0) 3 Z3 (dz_pm (dz_bi H) (fun q8 H => ?_))
      show mm_Wp X (D + 1) mm_r47 35 [some (.ref 1), some (dz_I a1), some (dz_I a2)] [dz_B q8.1] (hz_0 q8.2) Q
      refine wq_rb rfl rfl ?_
      replace H := dz_sm H
      exact H
  · replace H := dz_if c1 H
    refine wp_s (i := .aload_n 0) (n := 1) (pc' := 9) (st' := [.ref 1]) rfl rfl ?_
    refine wp_s (i := .iconst 2) (n := 1) (pc' := 10) (st' := [dz_I 2, .ref 1]) rfl rfl ?_
    refine wq_cv (Dq := D) (r' := mm_r30) (as0 := [dz_I 2]) (rest := []) (ls' := [some (.ref 1), some (dz_I 2)]) (pc' := 13) rfl rfl rfl rfl ho_R rfl rfl rfl ?_
    refine jw_R_fail (X := X) (D := D + 0) 2 Z (dz_pm (dz_bi H) (fun q9 H => ?_))
    show mm_Wp X (D + 1) mm_r47 13 [some (.ref 1), some (dz_I a1), some (dz_I a2)] [dz_B q9.1] (hz_0 q9.2) Q
    refine wq_rb rfl rfl ?_
    replace H := dz_sm H
    exact H
-- 46
def jf_R_readSeconds (a1b a1f a1n : Nat) (a2 : Int) (Z : dz_Z) : Option (Int × dz_Z) := Option.bind (jf_R_needsNumber 0 a2 Z) fun q1 => if q1.1 = true then (if 0 ≤ (0 : Int) ∧ (0 : Int) < (a1n : Int) then dz_a (dz_u q1.2 a1b a1f 0 (q1.2 1 9 0)) fun Z4 => dz_lp (fun (s5 : Int × dz_Z) => if 12 < dz_c s5.1 then (some (Sum.inr (0, s5.2))) else (Option.bind (jf_R_nextToken s5.2) fun q7 => if q7.1 = true then (if dz_c (q7.2 1 8 0) ≠ 4 then (Option.bind (jf_R_isSecond s5.1 a2 q7.2) fun q10 => if q10.1 = true then (if 0 ≤ (dz_c s5.1 : Int) ∧ (dz_c s5.1 : Int) < (a1n : Int) then dz_a (dz_u q10.2 a1b a1f (dz_c s5.1) (q10.2 1 9 0)) fun Z13 => some (Sum.inl (s5.1 + 1, Z13)) else none) else (some (Sum.inr (0, q10.2)))) else (some (Sum.inr (s5.1, q7.2)))) else (some (Sum.inr (0, q7.2))))) 5000 (1, Z4) else none) else (some (0, q1.2))
set_option maxRecDepth 20000 in
theorem jw_R_readSeconds {X : Option (List Int32)} {D : Nat} {Q : Option Value → mm_H → Prop} (a1c a1b a1f a1n : Nat) (ha1 : hz_t[a1c]? = some (.inl (0, a1b, a1f, a1n))) (a2 : Int) (Z : dz_Z) (H : dz_p (jf_R_readSeconds a1b a1f a1n a2 Z) (fun q => Q (some (dz_I q.1)) (hz_0 q.2))) : mm_Wp X (D + 3) mm_r46 0 [some (.ref 1), some (.ref a1c), some (dz_I a2), none] [] (hz_0 Z) Q := by
  unfold jf_R_readSeconds at H
  refine wp_s (i := .aload_n 0) (n := 1) (pc' := 1) (st' := [.ref 1]) rfl rfl ?_
  refine wp_s (i := .iconst 0) (n := 1) (pc' := 2) (st' := [dz_I 0, .ref 1]) rfl rfl ?_
  refine wp_s (i := .iload_n 2) (n := 1) (pc' := 3) (st' := [dz_I a2, dz_I 0, .ref 1]) rfl rfl ?_
  refine wq_cv (Dq := (D + 2)) (r' := mm_r36) (as0 := [dz_I 0, dz_I a2]) (rest := []) (ls' := [some (.ref 1), some (dz_I 0), some (dz_I a2)]) (pc' := 6) rfl rfl rfl rfl ho_R rfl rfl rfl ?_
  refine jw_R_needsNumber (X := X) (D := D + 0) 0 a2 Z (dz_pm (dz_bi H) (fun q1 H => ?_))
  show mm_Wp X (D + 3) mm_r46 6 [some (.ref 1), some (.ref a1c), some (dz_I a2), none] [dz_B q1.1] (hz_0 q1.2) Q
  refine wq_if (p := q1.1 = true) (tt := 11) (pc' := 9) rfl rfl (cb_ne) rfl (fun c2 => ?_) (fun c2 => ?_)
  · replace H := dz_it c2 H
    refine wp_s (i := .aload_n 1) (n := 1) (pc' := 12) (st' := [.ref a1c]) rfl rfl ?_
    refine wp_s (i := .iconst 0) (n := 1) (pc' := 13) (st' := [dz_I 0, .ref a1c]) rfl rfl ?_
    refine wp_s (i := .aload_n 0) (n := 1) (pc' := 14) (st' := [.ref 1, dz_I 0, .ref a1c]) rfl rfl ?_
    refine wq_gi (idx := 87) (pc' := 17) rfl rfl ho_R rfl rfl ?_
    obtain ⟨k3, H⟩ := dz_ck H
    refine wq_is (j' := 0) (x := q1.2 1 9 0) (pc' := 18) rfl ha1 dk_0 k3.1 k3.2 rfl (fun Z4 eZ4 => ?_)
    replace H := dz_le H Z4 eZ4
    clear eZ4
    refine wp_s (i := .iconst 1) (n := 1) (pc' := 19) (st' := [dz_I 1]) rfl rfl ?_
    refine wq_st (k := 3) (i := .istore_n 3) (n := 1) (ls' := [some (.ref 1), some (.ref a1c), some (dz_I a2), some (dz_I 1)]) (pc' := 20) rfl rfl rfl rfl rfl ?_
    refine dz_lpi (P := fun (s5 : Int × dz_Z) => mm_Wp X (D + 3) mm_r46 20 [some (.ref 1), some (.ref a1c), some (dz_I a2), some (dz_I s5.1)] [] (hz_0 s5.2) Q) (fun s5 H => ?_) 5000 (1, Z4) H
    refine wp_s (i := .iload_n 3) (n := 1) (pc' := 21) (st' := [dz_I s5.1]) rfl rfl ?_
    refine wp_s (i := .bipush 12) (n := 2) (pc' := 23) (st' := [dz_I 12, dz_I s5.1]) rfl rfl ?_
    refine wq_ic (p := 12 < dz_c s5.1) (tt := 69) (pc' := 26) rfl rfl (cq_gt rfl dk_12) rfl (fun c6 => ?_) (fun c6 => ?_)
    · replace H := dz_it c6 H
      refine wp_s (i := .iconst 0) (n := 1) (pc' := 70) (st' := [dz_I 0]) rfl rfl ?_
      refine wq_ri rfl rfl ?_
      replace H := dz_out H
      replace H := dz_sm H
      exact H
    · replace H := dz_if c6 H
      refine wp_s (i := .aload_n 0) (n := 1) (pc' := 27) (st' := [.ref 1]) rfl rfl ?_
      refine wq_cv (Dq := (D + 2)) (r' := mm_r31) (as0 := []) (rest := []) (ls' := [some (.ref 1), none]) (pc' := 30) rfl rfl rfl rfl ho_R rfl rfl rfl ?_
      refine jw_R_nextToken (X := X) (D := D + 1) s5.2 (dz_pm (dz_bi H) (fun q7 H => ?_))
      show mm_Wp X (D + 3) mm_r46 30 [some (.ref 1), some (.ref a1c), some (dz_I a2), some (dz_I s5.1)] [dz_B q7.1] (hz_0 q7.2) Q
      refine wq_if (p := q7.1 = true) (tt := 35) (pc' := 33) rfl rfl (cb_ne) rfl (fun c8 => ?_) (fun c8 => ?_)
      · replace H := dz_it c8 H
        refine wp_s (i := .aload_n 0) (n := 1) (pc' := 36) (st' := [.ref 1]) rfl rfl ?_
        refine wq_gi (idx := 64) (pc' := 39) rfl rfl ho_R rfl rfl ?_
        refine wp_s (i := .iconst 4) (n := 1) (pc' := 40) (st' := [dz_I 4, dz_I (q7.2 1 8 0)]) rfl rfl ?_
        refine wq_ic (p := dz_c (q7.2 1 8 0) ≠ 4) (tt := 45) (pc' := 43) rfl rfl (cq_ne rfl dk_4) rfl (fun c9 => ?_) (fun c9 => ?_)
        · replace H := dz_it c9 H
          refine wp_s (i := .aload_n 0) (n := 1) (pc' := 46) (st' := [.ref 1]) rfl rfl ?_
          refine wp_s (i := .iload_n 3) (n := 1) (pc' := 47) (st' := [dz_I s5.1, .ref 1]) rfl rfl ?_
          refine wp_s (i := .iload_n 2) (n := 1) (pc' := 48) (st' := [dz_I a2, dz_I s5.1, .ref 1]) rfl rfl ?_
          refine wq_cv (Dq := (D + 2)) (r' := mm_r47) (as0 := [dz_I s5.1, dz_I a2]) (rest := []) (ls' := [some (.ref 1), some (dz_I s5.1), some (dz_I a2)]) (pc' := 51) rfl rfl rfl rfl ho_R rfl rfl rfl ?_
          refine jw_R_isSecond (X := X) (D := D + 1) s5.1 a2 q7.2 (dz_pm (dz_bi H) (fun q10 H => ?_))
          show mm_Wp X (D + 3) mm_r46 51 [some (.ref 1), some (.ref a1c), some (dz_I a2), some (dz_I s5.1)] [dz_B q10.1] (hz_0 q10.2) Q
          refine wq_if (p := q10.1 = true) (tt := 56) (pc' := 54) rfl rfl (cb_ne) rfl (fun c11 => ?_) (fun c11 => ?_)
          · replace H := dz_it c11 H
            refine wp_s (i := .aload_n 1) (n := 1) (pc' := 57) (st' := [.ref a1c]) rfl rfl ?_
            refine wp_s (i := .iload_n 3) (n := 1) (pc' := 58) (st' := [dz_I s5.1, .ref a1c]) rfl rfl ?_
            refine wp_s (i := .aload_n 0) (n := 1) (pc' := 59) (st' := [.ref 1, dz_I s5.1, .ref a1c]) rfl rfl ?_
            refine wq_gi (idx := 87) (pc' := 62) rfl rfl ho_R rfl rfl ?_
            obtain ⟨k12, H⟩ := dz_ck H
            refine wq_is (j' := dz_c s5.1) (x := q10.2 1 9 0) (pc' := 63) rfl ha1 rfl k12.1 k12.2 rfl (fun Z13 eZ13 => ?_)
            replace H := dz_le H Z13 eZ13
            clear eZ13
            refine wq_inc (k := 3) (d := 1) (x := s5.1) (ls' := [some (.ref 1), some (.ref a1c), some (dz_I a2), some (dz_I (s5.1 + 1))]) (pc' := 66) rfl rfl rfl rfl ?_
            refine wp_s (i := .goto (-46)) (n := 3) (pc' := 20) (st' := []) rfl rfl ?_
            replace H := dz_back H
            exact H
          · replace H := dz_if c11 H
            refine wp_s (i := .iconst 0) (n := 1) (pc' := 55) (st' := [dz_I 0]) rfl rfl ?_
            refine wq_ri rfl rfl ?_
            replace H := dz_out H
            replace H := dz_sm H
            exact H
        · replace H := dz_if c9 H
          refine wp_s (i := .iload_n 3) (n := 1) (pc' := 44) (st' := [dz_I s5.1]) rfl rfl ?_
          refine wq_ri rfl rfl ?_
          replace H := dz_out H
          replace H := dz_sm H
          exact H
      · replace H := dz_if c8 H
        refine wp_s (i := .iconst 0) (n := 1) (pc' := 34) (st' := [dz_I 0]) rfl rfl ?_
        refine wq_ri rfl rfl ?_
        replace H := dz_out H
        replace H := dz_sm H
        exact H
  · replace H := dz_if c2 H
    refine wp_s (i := .iconst 0) (n := 1) (pc' := 10) (st' := [dz_I 0]) rfl rfl ?_
    refine wq_ri rfl rfl ?_
    replace H := dz_sm H
    exact H
-- 44
def jf_R_readRain (Z : dz_Z) : Option (Bool × dz_Z) := if hz_isP (Z 1 1 0).toNat then if dz_c (Z ((Z 1 1 0).toNat) 10 0) < 3 then (if hz_isS (Z 1 2 0).toNat then if 0 ≤ dz_c (Z ((Z 1 1 0).toNat) 10 0) ∧ dz_c (Z ((Z 1 1 0).toNat) 10 0) < 3 then Option.bind (jf_R_readSeconds ((Z 1 2 0).toNat) (20 + Int.toNat (dz_c (Z ((Z 1 1 0).toNat) 10 0))) 12 9 Z) fun q5 => if hz_isS (q5.2 1 2 0).toNat then dz_a (dz_u q5.2 ((q5.2 1 2 0).toNat) 3 (dz_c (Z ((Z 1 1 0).toNat) 10 0)) q5.1) fun Z7 => if hz_isP (Z7 1 1 0).toNat then dz_a (dz_u Z7 ((Z7 1 1 0).toNat) 10 0 ((Z7 ((Z7 1 1 0).toNat) 10 0) + 1)) fun Z9 => if dz_c q5.1 ≤ 0 then (some (false, Z9)) else (some (true, Z9)) else none else none else none else none) else (Option.bind (jf_R_fail 5 Z) fun q11 => some (q11.1, q11.2)) else none
set_option maxRecDepth 20000 in
theorem jw_R_readRain {X : Option (List Int32)} {D : Nat} {Q : Option Value → mm_H → Prop} (Z : dz_Z) (H : dz_p (jf_R_readRain Z) (fun q => Q (some (dz_B q.1)) (hz_0 q.2))) : mm_Wp X (D + 4) mm_r44 0 [some (.ref 1), none, none] [] (hz_0 Z) Q := by
  unfold jf_R_readRain at H
  refine wp_s (i := .aload_n 0) (n := 1) (pc' := 1) (st' := [.ref 1]) rfl rfl ?_
  obtain ⟨k1, H⟩ := dz_ck H
  refine wq_gd (idx := 21) (pc' := 4) rfl rfl ho_R rfl rfl ?_
  refine wq_gi (idx := 201) (pc' := 7) rfl rfl (ho_P k1) rfl rfl ?_
  refine wq_st (k := 1) (i := .istore_n 1) (n := 1) (ls' := [some (.ref 1), some (dz_I (Z ((Z 1 1 0).toNat) 10 0)), none]) (pc' := 8) rfl rfl rfl rfl rfl ?_
  refine wp_s (i := .iload_n 1) (n := 1) (pc' := 9) (st' := [dz_I (Z ((Z 1 1 0).toNat) 10 0)]) rfl rfl ?_
  refine wp_s (i := .iconst 3) (n := 1) (pc' := 10) (st' := [dz_I 3, dz_I (Z ((Z 1 1 0).toNat) 10 0)]) rfl rfl ?_
  refine wq_ic (p := dz_c (Z ((Z 1 1 0).toNat) 10 0) < 3) (tt := 19) (pc' := 13) rfl rfl (cq_lt rfl dk_3) rfl (fun c2 => ?_) (fun c2 => ?_)
  · replace H := dz_it c2 H
    refine wp_s (i := .aload_n 0) (n := 1) (pc' := 20) (st' := [.ref 1]) rfl rfl ?_
    refine wp_s (i := .aload_n 0) (n := 1) (pc' := 21) (st' := [.ref 1, .ref 1]) rfl rfl ?_
    obtain ⟨k3, H⟩ := dz_ck H
    refine wq_gd (idx := 28) (pc' := 24) rfl rfl ho_R rfl rfl ?_
    refine wq_gr (idx := 204) (a := (Z 1 2 0).toNat + 5) (pc' := 27) rfl rfl (ho_S k3) rfl rfl ?_
    refine wp_s (i := .iload_n 1) (n := 1) (pc' := 28) (st' := [dz_I (Z ((Z 1 1 0).toNat) 10 0), .ref ((Z 1 2 0).toNat + 5), .ref 1]) rfl rfl ?_
    obtain ⟨k4, H⟩ := dz_ck H
    refine wq_aa (j' := dz_c (Z ((Z 1 1 0).toNat) 10 0)) (a := (Z 1 2 0).toNat + 6 + Int.toNat (dz_c (Z ((Z 1 1 0).toNat) 10 0))) (pc' := 29) rfl (by decide) (ha_S_4 k3) rfl k4.1 k4.2 (hr_S k4.1 k4.2) rfl ?_
    refine wp_s (i := .bipush 9) (n := 2) (pc' := 31) (st' := [dz_I 9, .ref ((Z 1 2 0).toNat + 6 + Int.toNat (dz_c (Z ((Z 1 1 0).toNat) 10 0))), .ref 1]) rfl rfl ?_
    refine wq_cv (Dq := (D + 3)) (r' := mm_r46) (as0 := [.ref ((Z 1 2 0).toNat + 6 + Int.toNat (dz_c (Z ((Z 1 1 0).toNat) 10 0))), dz_I 9]) (rest := []) (ls' := [some (.ref 1), some (.ref ((Z 1 2 0).toNat + 6 + Int.toNat (dz_c (Z ((Z 1 1 0).toNat) 10 0)))), some (dz_I 9), none]) (pc' := 34) rfl rfl rfl rfl ho_R rfl rfl rfl ?_
    refine jw_R_readSeconds (X := X) (D := D + 0) ((Z 1 2 0).toNat + 6 + Int.toNat (dz_c (Z ((Z 1 1 0).toNat) 10 0))) ((Z 1 2 0).toNat) (20 + Int.toNat (dz_c (Z ((Z 1 1 0).toNat) 10 0))) 12 (ha_Sr k3 k4.1 k4.2) 9 Z (dz_pm (dz_bi H) (fun q5 H => ?_))
    show mm_Wp X (D + 4) mm_r44 34 [some (.ref 1), some (dz_I (Z ((Z 1 1 0).toNat) 10 0)), none] [dz_I q5.1] (hz_0 q5.2) Q
    refine wq_st (k := 2) (i := .istore_n 2) (n := 1) (ls' := [some (.ref 1), some (dz_I (Z ((Z 1 1 0).toNat) 10 0)), some (dz_I q5.1)]) (pc' := 35) rfl rfl rfl rfl rfl ?_
    refine wp_s (i := .aload_n 0) (n := 1) (pc' := 36) (st' := [.ref 1]) rfl rfl ?_
    obtain ⟨k6, H⟩ := dz_ck H
    refine wq_gd (idx := 28) (pc' := 39) rfl rfl ho_R rfl rfl ?_
    refine wq_gr (idx := 212) (a := (q5.2 1 2 0).toNat + 4) (pc' := 42) rfl rfl (ho_S k6) rfl rfl ?_
    refine wp_s (i := .iload_n 1) (n := 1) (pc' := 43) (st' := [dz_I (Z ((Z 1 1 0).toNat) 10 0), .ref ((q5.2 1 2 0).toNat + 4)]) rfl rfl ?_
    refine wp_s (i := .iload_n 2) (n := 1) (pc' := 44) (st' := [dz_I q5.1, dz_I (Z ((Z 1 1 0).toNat) 10 0), .ref ((q5.2 1 2 0).toNat + 4)]) rfl rfl ?_
    refine wq_is (j' := dz_c (Z ((Z 1 1 0).toNat) 10 0)) (x := q5.1) (pc' := 45) rfl (ha_S_3 k6) rfl k4.1 k4.2 rfl (fun Z7 eZ7 => ?_)
    replace H := dz_le H Z7 eZ7
    clear eZ7
    refine wp_s (i := .aload_n 0) (n := 1) (pc' := 46) (st' := [.ref 1]) rfl rfl ?_
    obtain ⟨k8, H⟩ := dz_ck H
    refine wq_gd (idx := 21) (pc' := 49) rfl rfl ho_R rfl rfl ?_
    refine wp_s (i := .dup) (n := 1) (pc' := 50) (st' := [.ref ((Z7 1 1 0).toNat), .ref ((Z7 1 1 0).toNat)]) rfl rfl ?_
    refine wq_gi (idx := 201) (pc' := 53) rfl rfl (ho_P k8) rfl rfl ?_
    refine wp_s (i := .iconst 1) (n := 1) (pc' := 54) (st' := [dz_I 1, dz_I (Z7 ((Z7 1 1 0).toNat) 10 0), .ref ((Z7 1 1 0).toNat)]) rfl rfl ?_
    refine wq_2 (i := .iadd) (z := (Z7 ((Z7 1 1 0).toNat) 10 0) + 1) (pc' := 55) rfl rfl (op_add _ _) rfl ?_
    refine wq_pi (idx := 201) (x := (Z7 ((Z7 1 1 0).toNat) 10 0) + 1) (pc' := 58) rfl rfl rfl (ho_P k8) rfl rfl rfl rfl (fun Z9 eZ9 => ?_)
    replace H := dz_le H Z9 eZ9
    clear eZ9
    refine wp_s (i := .iload_n 2) (n := 1) (pc' := 59) (st' := [dz_I q5.1]) rfl rfl ?_
    refine wq_if (p := dz_c q5.1 ≤ 0) (tt := 66) (pc' := 62) rfl rfl (cz_le rfl) rfl (fun c10 => ?_) (fun c10 => ?_)
    · replace H := dz_it c10 H
      refine wp_s (i := .iconst 0) (n := 1) (pc' := 67) (st' := [dz_I 0]) rfl rfl ?_
      refine wq_rf rfl rfl ?_
      replace H := dz_sm H
      exact H
    · replace H := dz_if c10 H
      refine wp_s (i := .iconst 1) (n := 1) (pc' := 63) (st' := [dz_I 1]) rfl rfl ?_
      refine wp_s (i := .goto 4) (n := 3) (pc' := 67) (st' := [dz_I 1]) rfl rfl ?_
      refine wq_rt rfl rfl ?_
      replace H := dz_sm H
      exact H
  · replace H := dz_if c2 H
    refine wp_s (i := .aload_n 0) (n := 1) (pc' := 14) (st' := [.ref 1]) rfl rfl ?_
    refine wp_s (i := .iconst 5) (n := 1) (pc' := 15) (st' := [dz_I 5, .ref 1]) rfl rfl ?_
    refine wq_cv (Dq := (D + 3)) (r' := mm_r30) (as0 := [dz_I 5]) (rest := []) (ls' := [some (.ref 1), some (dz_I 5)]) (pc' := 18) rfl rfl rfl rfl ho_R rfl rfl rfl ?_
    refine jw_R_fail (X := X) (D := D + 3) 5 Z (dz_pm (dz_bi H) (fun q11 H => ?_))
    show mm_Wp X (D + 4) mm_r44 18 [some (.ref 1), some (dz_I (Z ((Z 1 1 0).toNat) 10 0)), none] [dz_B q11.1] (hz_0 q11.2) Q
    refine wq_rb rfl rfl ?_
    replace H := dz_sm H
    exact H
-- 45
def jf_R_readTune (Z : dz_Z) : Option (Bool × dz_Z) := if hz_isS (Z 1 2 0).toNat then if dz_c (Z ((Z 1 2 0).toNat) 6 0) ≤ 0 then (Option.bind (jf_R_readSeconds ((Z 1 2 0).toNat) 5 12 255 Z) fun q3 => dz_a (dz_u q3.2 ((Z 1 2 0).toNat) 6 0 q3.1) fun Z4 => if hz_isS (Z4 1 2 0).toNat then if dz_c (Z4 ((Z4 1 2 0).toNat) 6 0) ≤ 0 then (some (false, Z4)) else (some (true, Z4)) else none) else (Option.bind (jf_R_fail 4 Z) fun q7 => some (q7.1, q7.2)) else none
set_option maxRecDepth 20000 in
theorem jw_R_readTune {X : Option (List Int32)} {D : Nat} {Q : Option Value → mm_H → Prop} (Z : dz_Z) (H : dz_p (jf_R_readTune Z) (fun q => Q (some (dz_B q.1)) (hz_0 q.2))) : mm_Wp X (D + 4) mm_r45 0 [some (.ref 1)] [] (hz_0 Z) Q := by
  unfold jf_R_readTune at H
  refine wp_s (i := .aload_n 0) (n := 1) (pc' := 1) (st' := [.ref 1]) rfl rfl ?_
  obtain ⟨k1, H⟩ := dz_ck H
  refine wq_gd (idx := 28) (pc' := 4) rfl rfl ho_R rfl rfl ?_
  refine wq_gi (idx := 215) (pc' := 7) rfl rfl (ho_S k1) rfl rfl ?_
  refine wq_if (p := dz_c (Z ((Z 1 2 0).toNat) 6 0) ≤ 0) (tt := 16) (pc' := 10) rfl rfl (cz_le rfl) rfl (fun c2 => ?_) (fun c2 => ?_)
  · replace H := dz_it c2 H
    refine wp_s (i := .aload_n 0) (n := 1) (pc' := 17) (st' := [.ref 1]) rfl rfl ?_
    refine wq_gd (idx := 28) (pc' := 20) rfl rfl ho_R rfl rfl ?_
    refine wp_s (i := .aload_n 0) (n := 1) (pc' := 21) (st' := [.ref 1, .ref ((Z 1 2 0).toNat)]) rfl rfl ?_
    refine wp_s (i := .aload_n 0) (n := 1) (pc' := 22) (st' := [.ref 1, .ref 1, .ref ((Z 1 2 0).toNat)]) rfl rfl ?_
    refine wq_gd (idx := 28) (pc' := 25) rfl rfl ho_R rfl rfl ?_
    refine wq_gr (idx := 218) (a := (Z 1 2 0).toNat + 9) (pc' := 28) rfl rfl (ho_S k1) rfl rfl ?_
    refine wp_s (i := .sipush 255) (n := 3) (pc' := 31) (st' := [dz_I 255, .ref ((Z 1 2 0).toNat + 9), .ref 1, .ref ((Z 1 2 0).toNat)]) rfl rfl ?_
    refine wq_cv (Dq := (D + 3)) (r' := mm_r46) (as0 := [.ref ((Z 1 2 0).toNat + 9), dz_I 255]) (rest := [.ref ((Z 1 2 0).toNat)]) (ls' := [some (.ref 1), some (.ref ((Z 1 2 0).toNat + 9)), some (dz_I 255), none]) (pc' := 34) rfl rfl rfl rfl ho_R rfl rfl rfl ?_
    refine jw_R_readSeconds (X := X) (D := D + 0) ((Z 1 2 0).toNat + 9) ((Z 1 2 0).toNat) 5 12 (ha_S_5 k1) 255 Z (dz_pm (dz_bi H) (fun q3 H => ?_))
    show mm_Wp X (D + 4) mm_r45 34 [some (.ref 1)] [dz_I q3.1, .ref ((Z 1 2 0).toNat)] (hz_0 q3.2) Q
    refine wq_pi (idx := 215) (x := q3.1) (pc' := 37) rfl rfl rfl (ho_S k1) rfl rfl rfl rfl (fun Z4 eZ4 => ?_)
    replace H := dz_le H Z4 eZ4
    clear eZ4
    refine wp_s (i := .aload_n 0) (n := 1) (pc' := 38) (st' := [.ref 1]) rfl rfl ?_
    obtain ⟨k5, H⟩ := dz_ck H
    refine wq_gd (idx := 28) (pc' := 41) rfl rfl ho_R rfl rfl ?_
    refine wq_gi (idx := 215) (pc' := 44) rfl rfl (ho_S k5) rfl rfl ?_
    refine wq_if (p := dz_c (Z4 ((Z4 1 2 0).toNat) 6 0) ≤ 0) (tt := 51) (pc' := 47) rfl rfl (cz_le rfl) rfl (fun c6 => ?_) (fun c6 => ?_)
    · replace H := dz_it c6 H
      refine wp_s (i := .iconst 0) (n := 1) (pc' := 52) (st' := [dz_I 0]) rfl rfl ?_
      refine wq_rf rfl rfl ?_
      replace H := dz_sm H
      exact H
    · replace H := dz_if c6 H
      refine wp_s (i := .iconst 1) (n := 1) (pc' := 48) (st' := [dz_I 1]) rfl rfl ?_
      refine wp_s (i := .goto 4) (n := 3) (pc' := 52) (st' := [dz_I 1]) rfl rfl ?_
      refine wq_rt rfl rfl ?_
      replace H := dz_sm H
      exact H
  · replace H := dz_if c2 H
    refine wp_s (i := .aload_n 0) (n := 1) (pc' := 11) (st' := [.ref 1]) rfl rfl ?_
    refine wp_s (i := .iconst 4) (n := 1) (pc' := 12) (st' := [dz_I 4, .ref 1]) rfl rfl ?_
    refine wq_cv (Dq := (D + 3)) (r' := mm_r30) (as0 := [dz_I 4]) (rest := []) (ls' := [some (.ref 1), some (dz_I 4)]) (pc' := 15) rfl rfl rfl rfl ho_R rfl rfl rfl ?_
    refine jw_R_fail (X := X) (D := D + 3) 4 Z (dz_pm (dz_bi H) (fun q7 H => ?_))
    show mm_Wp X (D + 4) mm_r45 15 [some (.ref 1)] [dz_B q7.1] (hz_0 q7.2) Q
    refine wq_rb rfl rfl ?_
    replace H := dz_sm H
    exact H
-- 48
def jf_R_readSleep (Z : dz_Z) : Option (Bool × dz_Z) := if hz_isP (Z 1 1 0).toNat then if dz_c (Z ((Z 1 1 0).toNat) 11 0) < 4 then (Option.bind (jf_R_needsNumber 0 11 Z) fun q3 => if q3.1 = true then (if hz_isP (q3.2 1 1 0).toNat then if 0 ≤ dz_c (Z ((Z 1 1 0).toNat) 11 0) ∧ dz_c (Z ((Z 1 1 0).toNat) 11 0) < 4 then dz_a (dz_u q3.2 ((q3.2 1 1 0).toNat) 12 (dz_c (Z ((Z 1 1 0).toNat) 11 0)) (q3.2 1 9 0)) fun Z7 => Option.bind (jf_R_needsNumber (Z7 1 9 0) 11 Z7) fun q8 => if q8.1 = true then (if hz_isP (q8.2 1 1 0).toNat then dz_a (dz_u q8.2 ((q8.2 1 1 0).toNat) 13 (dz_c (Z ((Z 1 1 0).toNat) 11 0)) (q8.2 1 9 0)) fun Z11 => Option.bind (jf_R_needsNumber 1 99 Z11) fun q12 => if q12.1 = true then (if hz_isP (q12.2 1 1 0).toNat then dz_a (dz_u q12.2 ((q12.2 1 1 0).toNat) 14 (dz_c (Z ((Z 1 1 0).toNat) 11 0)) (q12.2 1 9 0)) fun Z15 => if hz_isP (Z15 1 1 0).toNat then dz_a (dz_u Z15 ((Z15 1 1 0).toNat) 11 0 ((Z15 ((Z15 1 1 0).toNat) 11 0) + 1)) fun Z17 => Option.bind (jf_R_needs 4 Z17) fun q18 => some (q18.1, q18.2) else none else none) else (some (false, q12.2)) else none) else (some (false, q8.2)) else none else none) else (some (false, q3.2))) else (Option.bind (jf_R_fail 5 Z) fun q19 => some (q19.1, q19.2)) else none
set_option maxRecDepth 20000 in
theorem jw_R_readSleep {X : Option (List Int32)} {D : Nat} {Q : Option Value → mm_H → Prop} (Z : dz_Z) (H : dz_p (jf_R_readSleep Z) (fun q => Q (some (dz_B q.1)) (hz_0 q.2))) : mm_Wp X (D + 3) mm_r48 0 [some (.ref 1), none] [] (hz_0 Z) Q := by
  unfold jf_R_readSleep at H
  refine wp_s (i := .aload_n 0) (n := 1) (pc' := 1) (st' := [.ref 1]) rfl rfl ?_
  obtain ⟨k1, H⟩ := dz_ck H
  refine wq_gd (idx := 21) (pc' := 4) rfl rfl ho_R rfl rfl ?_
  refine wq_gi (idx := 223) (pc' := 7) rfl rfl (ho_P k1) rfl rfl ?_
  refine wq_st (k := 1) (i := .istore_n 1) (n := 1) (ls' := [some (.ref 1), some (dz_I (Z ((Z 1 1 0).toNat) 11 0))]) (pc' := 8) rfl rfl rfl rfl rfl ?_
  refine wp_s (i := .iload_n 1) (n := 1) (pc' := 9) (st' := [dz_I (Z ((Z 1 1 0).toNat) 11 0)]) rfl rfl ?_
  refine wp_s (i := .iconst 4) (n := 1) (pc' := 10) (st' := [dz_I 4, dz_I (Z ((Z 1 1 0).toNat) 11 0)]) rfl rfl ?_
  refine wq_ic (p := dz_c (Z ((Z 1 1 0).toNat) 11 0) < 4) (tt := 19) (pc' := 13) rfl rfl (cq_lt rfl dk_4) rfl (fun c2 => ?_) (fun c2 => ?_)
  · replace H := dz_it c2 H
    refine wp_s (i := .aload_n 0) (n := 1) (pc' := 20) (st' := [.ref 1]) rfl rfl ?_
    refine wp_s (i := .iconst 0) (n := 1) (pc' := 21) (st' := [dz_I 0, .ref 1]) rfl rfl ?_
    refine wp_s (i := .bipush 11) (n := 2) (pc' := 23) (st' := [dz_I 11, dz_I 0, .ref 1]) rfl rfl ?_
    refine wq_cv (Dq := (D + 2)) (r' := mm_r36) (as0 := [dz_I 0, dz_I 11]) (rest := []) (ls' := [some (.ref 1), some (dz_I 0), some (dz_I 11)]) (pc' := 26) rfl rfl rfl rfl ho_R rfl rfl rfl ?_
    refine jw_R_needsNumber (X := X) (D := D + 0) 0 11 Z (dz_pm (dz_bi H) (fun q3 H => ?_))
    show mm_Wp X (D + 3) mm_r48 26 [some (.ref 1), some (dz_I (Z ((Z 1 1 0).toNat) 11 0))] [dz_B q3.1] (hz_0 q3.2) Q
    refine wq_if (p := q3.1 = true) (tt := 31) (pc' := 29) rfl rfl (cb_ne) rfl (fun c4 => ?_) (fun c4 => ?_)
    · replace H := dz_it c4 H
      refine wp_s (i := .aload_n 0) (n := 1) (pc' := 32) (st' := [.ref 1]) rfl rfl ?_
      obtain ⟨k5, H⟩ := dz_ck H
      refine wq_gd (idx := 21) (pc' := 35) rfl rfl ho_R rfl rfl ?_
      refine wq_gr (idx := 226) (a := (q3.2 1 1 0).toNat + 8) (pc' := 38) rfl rfl (ho_P k5) rfl rfl ?_
      refine wp_s (i := .iload_n 1) (n := 1) (pc' := 39) (st' := [dz_I (Z ((Z 1 1 0).toNat) 11 0), .ref ((q3.2 1 1 0).toNat + 8)]) rfl rfl ?_
      refine wp_s (i := .aload_n 0) (n := 1) (pc' := 40) (st' := [.ref 1, dz_I (Z ((Z 1 1 0).toNat) 11 0), .ref ((q3.2 1 1 0).toNat + 8)]) rfl rfl ?_
      refine wq_gi (idx := 87) (pc' := 43) rfl rfl ho_R rfl rfl ?_
      obtain ⟨k6, H⟩ := dz_ck H
      refine wq_is (j' := dz_c (Z ((Z 1 1 0).toNat) 11 0)) (x := q3.2 1 9 0) (pc' := 44) rfl (ha_P_12 k5) rfl k6.1 k6.2 rfl (fun Z7 eZ7 => ?_)
      replace H := dz_le H Z7 eZ7
      clear eZ7
      refine wp_s (i := .aload_n 0) (n := 1) (pc' := 45) (st' := [.ref 1]) rfl rfl ?_
      refine wp_s (i := .aload_n 0) (n := 1) (pc' := 46) (st' := [.ref 1, .ref 1]) rfl rfl ?_
      refine wq_gi (idx := 87) (pc' := 49) rfl rfl ho_R rfl rfl ?_
      refine wp_s (i := .bipush 11) (n := 2) (pc' := 51) (st' := [dz_I 11, dz_I (Z7 1 9 0), .ref 1]) rfl rfl ?_
      refine wq_cv (Dq := (D + 2)) (r' := mm_r36) (as0 := [dz_I (Z7 1 9 0), dz_I 11]) (rest := []) (ls' := [some (.ref 1), some (dz_I (Z7 1 9 0)), some (dz_I 11)]) (pc' := 54) rfl rfl rfl rfl ho_R rfl rfl rfl ?_
      refine jw_R_needsNumber (X := X) (D := D + 0) (Z7 1 9 0) 11 Z7 (dz_pm (dz_bi H) (fun q8 H => ?_))
      show mm_Wp X (D + 3) mm_r48 54 [some (.ref 1), some (dz_I (Z ((Z 1 1 0).toNat) 11 0))] [dz_B q8.1] (hz_0 q8.2) Q
      refine wq_if (p := q8.1 = true) (tt := 59) (pc' := 57) rfl rfl (cb_ne) rfl (fun c9 => ?_) (fun c9 => ?_)
      · replace H := dz_it c9 H
        refine wp_s (i := .aload_n 0) (n := 1) (pc' := 60) (st' := [.ref 1]) rfl rfl ?_
        obtain ⟨k10, H⟩ := dz_ck H
        refine wq_gd (idx := 21) (pc' := 63) rfl rfl ho_R rfl rfl ?_
        refine wq_gr (idx := 229) (a := (q8.2 1 1 0).toNat + 9) (pc' := 66) rfl rfl (ho_P k10) rfl rfl ?_
        refine wp_s (i := .iload_n 1) (n := 1) (pc' := 67) (st' := [dz_I (Z ((Z 1 1 0).toNat) 11 0), .ref ((q8.2 1 1 0).toNat + 9)]) rfl rfl ?_
        refine wp_s (i := .aload_n 0) (n := 1) (pc' := 68) (st' := [.ref 1, dz_I (Z ((Z 1 1 0).toNat) 11 0), .ref ((q8.2 1 1 0).toNat + 9)]) rfl rfl ?_
        refine wq_gi (idx := 87) (pc' := 71) rfl rfl ho_R rfl rfl ?_
        refine wq_is (j' := dz_c (Z ((Z 1 1 0).toNat) 11 0)) (x := q8.2 1 9 0) (pc' := 72) rfl (ha_P_13 k10) rfl k6.1 k6.2 rfl (fun Z11 eZ11 => ?_)
        replace H := dz_le H Z11 eZ11
        clear eZ11
        refine wp_s (i := .aload_n 0) (n := 1) (pc' := 73) (st' := [.ref 1]) rfl rfl ?_
        refine wp_s (i := .iconst 1) (n := 1) (pc' := 74) (st' := [dz_I 1, .ref 1]) rfl rfl ?_
        refine wp_s (i := .bipush 99) (n := 2) (pc' := 76) (st' := [dz_I 99, dz_I 1, .ref 1]) rfl rfl ?_
        refine wq_cv (Dq := (D + 2)) (r' := mm_r36) (as0 := [dz_I 1, dz_I 99]) (rest := []) (ls' := [some (.ref 1), some (dz_I 1), some (dz_I 99)]) (pc' := 79) rfl rfl rfl rfl ho_R rfl rfl rfl ?_
        refine jw_R_needsNumber (X := X) (D := D + 0) 1 99 Z11 (dz_pm (dz_bi H) (fun q12 H => ?_))
        show mm_Wp X (D + 3) mm_r48 79 [some (.ref 1), some (dz_I (Z ((Z 1 1 0).toNat) 11 0))] [dz_B q12.1] (hz_0 q12.2) Q
        refine wq_if (p := q12.1 = true) (tt := 84) (pc' := 82) rfl rfl (cb_ne) rfl (fun c13 => ?_) (fun c13 => ?_)
        · replace H := dz_it c13 H
          refine wp_s (i := .aload_n 0) (n := 1) (pc' := 85) (st' := [.ref 1]) rfl rfl ?_
          obtain ⟨k14, H⟩ := dz_ck H
          refine wq_gd (idx := 21) (pc' := 88) rfl rfl ho_R rfl rfl ?_
          refine wq_gr (idx := 232) (a := (q12.2 1 1 0).toNat + 10) (pc' := 91) rfl rfl (ho_P k14) rfl rfl ?_
          refine wp_s (i := .iload_n 1) (n := 1) (pc' := 92) (st' := [dz_I (Z ((Z 1 1 0).toNat) 11 0), .ref ((q12.2 1 1 0).toNat + 10)]) rfl rfl ?_
          refine wp_s (i := .aload_n 0) (n := 1) (pc' := 93) (st' := [.ref 1, dz_I (Z ((Z 1 1 0).toNat) 11 0), .ref ((q12.2 1 1 0).toNat + 10)]) rfl rfl ?_
          refine wq_gi (idx := 87) (pc' := 96) rfl rfl ho_R rfl rfl ?_
          refine wq_is (j' := dz_c (Z ((Z 1 1 0).toNat) 11 0)) (x := q12.2 1 9 0) (pc' := 97) rfl (ha_P_14 k14) rfl k6.1 k6.2 rfl (fun Z15 eZ15 => ?_)
          replace H := dz_le H Z15 eZ15
          clear eZ15
          refine wp_s (i := .aload_n 0) (n := 1) (pc' := 98) (st' := [.ref 1]) rfl rfl ?_
          obtain ⟨k16, H⟩ := dz_ck H
          refine wq_gd (idx := 21) (pc' := 101) rfl rfl ho_R rfl rfl ?_
          refine wp_s (i := .dup) (n := 1) (pc' := 102) (st' := [.ref ((Z15 1 1 0).toNat), .ref ((Z15 1 1 0).toNat)]) rfl rfl ?_
          refine wq_gi (idx := 223) (pc' := 105) rfl rfl (ho_P k16) rfl rfl ?_
          refine wp_s (i := .iconst 1) (n := 1) (pc' := 106) (st' := [dz_I 1, dz_I (Z15 ((Z15 1 1 0).toNat) 11 0), .ref ((Z15 1 1 0).toNat)]) rfl rfl ?_
          refine wq_2 (i := .iadd) (z := (Z15 ((Z15 1 1 0).toNat) 11 0) + 1) (pc' := 107) rfl rfl (op_add _ _) rfl ?_
          refine wq_pi (idx := 223) (x := (Z15 ((Z15 1 1 0).toNat) 11 0) + 1) (pc' := 110) rfl rfl rfl (ho_P k16) rfl rfl rfl rfl (fun Z17 eZ17 => ?_)
          replace H := dz_le H Z17 eZ17
          clear eZ17
          refine wp_s (i := .aload_n 0) (n := 1) (pc' := 111) (st' := [.ref 1]) rfl rfl ?_
          refine wp_s (i := .iconst 4) (n := 1) (pc' := 112) (st' := [dz_I 4, .ref 1]) rfl rfl ?_
          refine wq_cv (Dq := (D + 2)) (r' := mm_r35) (as0 := [dz_I 4]) (rest := []) (ls' := [some (.ref 1), some (dz_I 4)]) (pc' := 115) rfl rfl rfl rfl ho_R rfl rfl rfl ?_
          refine jw_R_needs (X := X) (D := D + 0) 4 Z17 (dz_pm (dz_bi H) (fun q18 H => ?_))
          show mm_Wp X (D + 3) mm_r48 115 [some (.ref 1), some (dz_I (Z ((Z 1 1 0).toNat) 11 0))] [dz_B q18.1] (hz_0 q18.2) Q
          refine wq_rb rfl rfl ?_
          replace H := dz_sm H
          exact H
        · replace H := dz_if c13 H
          refine wp_s (i := .iconst 0) (n := 1) (pc' := 83) (st' := [dz_I 0]) rfl rfl ?_
          refine wq_rf rfl rfl ?_
          replace H := dz_sm H
          exact H
      · replace H := dz_if c9 H
        refine wp_s (i := .iconst 0) (n := 1) (pc' := 58) (st' := [dz_I 0]) rfl rfl ?_
        refine wq_rf rfl rfl ?_
        replace H := dz_sm H
        exact H
    · replace H := dz_if c4 H
      refine wp_s (i := .iconst 0) (n := 1) (pc' := 30) (st' := [dz_I 0]) rfl rfl ?_
      refine wq_rf rfl rfl ?_
      replace H := dz_sm H
      exact H
  · replace H := dz_if c2 H
    refine wp_s (i := .aload_n 0) (n := 1) (pc' := 14) (st' := [.ref 1]) rfl rfl ?_
    refine wp_s (i := .iconst 5) (n := 1) (pc' := 15) (st' := [dz_I 5, .ref 1]) rfl rfl ?_
    refine wq_cv (Dq := (D + 2)) (r' := mm_r30) (as0 := [dz_I 5]) (rest := []) (ls' := [some (.ref 1), some (dz_I 5)]) (pc' := 18) rfl rfl rfl rfl ho_R rfl rfl rfl ?_
    refine jw_R_fail (X := X) (D := D + 2) 5 Z (dz_pm (dz_bi H) (fun q19 H => ?_))
    show mm_Wp X (D + 3) mm_r48 18 [some (.ref 1), some (dz_I (Z ((Z 1 1 0).toNat) 11 0))] [dz_B q19.1] (hz_0 q19.2) Q
    refine wq_rb rfl rfl ?_
    replace H := dz_sm H
    exact H
-- 49
def jf_R_readWear (Z : dz_Z) : Option (Bool × dz_Z) := if dz_c (Z 1 5 0) = 0 then (dz_a (dz_u Z 1 5 0 1) fun Z2 => Option.bind (jf_R_needsNumber 0 999 Z2) fun q3 => if q3.1 = true then (if hz_isP (q3.2 1 1 0).toNat then dz_a (dz_u q3.2 ((q3.2 1 1 0).toNat) 15 0 (q3.2 1 9 0)) fun Z6 => Option.bind (jf_R_needs 4 Z6) fun q7 => some (q7.1, q7.2) else none) else (some (false, q3.2))) else (Option.bind (jf_R_fail 4 Z) fun q8 => some (q8.1, q8.2))
set_option maxRecDepth 20000 in
theorem jw_R_readWear {X : Option (List Int32)} {D : Nat} {Q : Option Value → mm_H → Prop} (Z : dz_Z) (H : dz_p (jf_R_readWear Z) (fun q => Q (some (dz_B q.1)) (hz_0 q.2))) : mm_Wp X (D + 3) mm_r49 0 [some (.ref 1)] [] (hz_0 Z) Q := by
  unfold jf_R_readWear at H
  refine wp_s (i := .aload_n 0) (n := 1) (pc' := 1) (st' := [.ref 1]) rfl rfl ?_
  refine wq_gi (idx := 36) (pc' := 4) rfl rfl ho_R rfl rfl ?_
  refine wq_if (p := dz_c (Z 1 5 0) = 0) (tt := 13) (pc' := 7) rfl rfl (cz_eq rfl) rfl (fun c1 => ?_) (fun c1 => ?_)
  · replace H := dz_it c1 H
    refine wp_s (i := .aload_n 0) (n := 1) (pc' := 14) (st' := [.ref 1]) rfl rfl ?_
    refine wp_s (i := .iconst 1) (n := 1) (pc' := 15) (st' := [dz_I 1, .ref 1]) rfl rfl ?_
    refine wq_pi (idx := 36) (x := 1) (pc' := 18) rfl rfl rfl ho_R rfl rfl rfl rfl (fun Z2 eZ2 => ?_)
    replace H := dz_le H Z2 eZ2
    clear eZ2
    refine wp_s (i := .aload_n 0) (n := 1) (pc' := 19) (st' := [.ref 1]) rfl rfl ?_
    refine wp_s (i := .iconst 0) (n := 1) (pc' := 20) (st' := [dz_I 0, .ref 1]) rfl rfl ?_
    refine wp_s (i := .sipush 999) (n := 3) (pc' := 23) (st' := [dz_I 999, dz_I 0, .ref 1]) rfl rfl ?_
    refine wq_cv (Dq := (D + 2)) (r' := mm_r36) (as0 := [dz_I 0, dz_I 999]) (rest := []) (ls' := [some (.ref 1), some (dz_I 0), some (dz_I 999)]) (pc' := 26) rfl rfl rfl rfl ho_R rfl rfl rfl ?_
    refine jw_R_needsNumber (X := X) (D := D + 0) 0 999 Z2 (dz_pm (dz_bi H) (fun q3 H => ?_))
    show mm_Wp X (D + 3) mm_r49 26 [some (.ref 1)] [dz_B q3.1] (hz_0 q3.2) Q
    refine wq_if (p := q3.1 = true) (tt := 31) (pc' := 29) rfl rfl (cb_ne) rfl (fun c4 => ?_) (fun c4 => ?_)
    · replace H := dz_it c4 H
      refine wp_s (i := .aload_n 0) (n := 1) (pc' := 32) (st' := [.ref 1]) rfl rfl ?_
      obtain ⟨k5, H⟩ := dz_ck H
      refine wq_gd (idx := 21) (pc' := 35) rfl rfl ho_R rfl rfl ?_
      refine wp_s (i := .aload_n 0) (n := 1) (pc' := 36) (st' := [.ref 1, .ref ((q3.2 1 1 0).toNat)]) rfl rfl ?_
      refine wq_gi (idx := 87) (pc' := 39) rfl rfl ho_R rfl rfl ?_
      refine wq_pi (idx := 235) (x := q3.2 1 9 0) (pc' := 42) rfl rfl rfl (ho_P k5) rfl rfl rfl rfl (fun Z6 eZ6 => ?_)
      replace H := dz_le H Z6 eZ6
      clear eZ6
      refine wp_s (i := .aload_n 0) (n := 1) (pc' := 43) (st' := [.ref 1]) rfl rfl ?_
      refine wp_s (i := .iconst 4) (n := 1) (pc' := 44) (st' := [dz_I 4, .ref 1]) rfl rfl ?_
      refine wq_cv (Dq := (D + 2)) (r' := mm_r35) (as0 := [dz_I 4]) (rest := []) (ls' := [some (.ref 1), some (dz_I 4)]) (pc' := 47) rfl rfl rfl rfl ho_R rfl rfl rfl ?_
      refine jw_R_needs (X := X) (D := D + 0) 4 Z6 (dz_pm (dz_bi H) (fun q7 H => ?_))
      show mm_Wp X (D + 3) mm_r49 47 [some (.ref 1)] [dz_B q7.1] (hz_0 q7.2) Q
      refine wq_rb rfl rfl ?_
      replace H := dz_sm H
      exact H
    · replace H := dz_if c4 H
      refine wp_s (i := .iconst 0) (n := 1) (pc' := 30) (st' := [dz_I 0]) rfl rfl ?_
      refine wq_rf rfl rfl ?_
      replace H := dz_sm H
      exact H
  · replace H := dz_if c1 H
    refine wp_s (i := .aload_n 0) (n := 1) (pc' := 8) (st' := [.ref 1]) rfl rfl ?_
    refine wp_s (i := .iconst 4) (n := 1) (pc' := 9) (st' := [dz_I 4, .ref 1]) rfl rfl ?_
    refine wq_cv (Dq := (D + 2)) (r' := mm_r30) (as0 := [dz_I 4]) (rest := []) (ls' := [some (.ref 1), some (dz_I 4)]) (pc' := 12) rfl rfl rfl rfl ho_R rfl rfl rfl ?_
    refine jw_R_fail (X := X) (D := D + 2) 4 Z (dz_pm (dz_bi H) (fun q8 H => ?_))
    show mm_Wp X (D + 3) mm_r49 12 [some (.ref 1)] [dz_B q8.1] (hz_0 q8.2) Q
    refine wq_rb rfl rfl ?_
    replace H := dz_sm H
    exact H
