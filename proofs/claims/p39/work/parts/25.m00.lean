section mg_25m00
-- 1
def jf_K_begin (a1 : Int) (a2 : Int) (Z : dz_Z) : Option (dz_Z) := dz_a (dz_u Z 65 6 0 a1) fun Z1 => dz_a (dz_u Z1 65 7 0 a2) fun Z2 => dz_a (dz_u Z2 65 3 0 0) fun Z3 => some Z3
set_option maxRecDepth 20000 in
theorem jw_K_begin {X : Option (List Int32)} {D : Nat} {Q : Option Value → mm_H → Prop} (a1 : Int) (a2 : Int) (Z : dz_Z) (H : dz_p (jf_K_begin a1 a2 Z) (fun q => Q (none) (hz_0 q))) : mm_Wp X D mm_r1 0 [some (.ref 65), some (dz_I a1), some (dz_I a2)] [] (hz_0 Z) Q := by
  unfold jf_K_begin at H
  refine wp_s (i := .aload_n 0) (n := 1) (pc' := 1) (st' := [.ref 65]) rfl rfl ?_
  refine wp_s (i := .iload_n 1) (n := 1) (pc' := 2) (st' := [dz_I a1, .ref 65]) rfl rfl ?_
  refine wq_pi (idx := 9) (x := a1) (pc' := 5) rfl rfl rfl ho_K rfl rfl rfl rfl (fun Z1 eZ1 => ?_)
  replace H := dz_le H Z1 eZ1
  clear eZ1
  refine wp_s (i := .aload_n 0) (n := 1) (pc' := 6) (st' := [.ref 65]) rfl rfl ?_
  refine wp_s (i := .iload_n 2) (n := 1) (pc' := 7) (st' := [dz_I a2, .ref 65]) rfl rfl ?_
  refine wq_pi (idx := 15) (x := a2) (pc' := 10) rfl rfl rfl ho_K rfl rfl rfl rfl (fun Z2 eZ2 => ?_)
  replace H := dz_le H Z2 eZ2
  clear eZ2
  refine wp_s (i := .aload_n 0) (n := 1) (pc' := 11) (st' := [.ref 65]) rfl rfl ?_
  refine wp_s (i := .iconst 0) (n := 1) (pc' := 12) (st' := [dz_I 0, .ref 65]) rfl rfl ?_
  refine wq_pi (idx := 18) (x := 0) (pc' := 15) rfl rfl rfl ho_K rfl rfl rfl rfl (fun Z3 eZ3 => ?_)
  replace H := dz_le H Z3 eZ3
  clear eZ3
  refine wq_rv rfl rfl ?_
  replace H := dz_sm H
  exact H
-- 3
def jf_K_changedPegs (a1 : Int) (Z : dz_Z) : Option (Int) := dz_lp (fun (s1 : Int × Int × Int × Int) => if dz_c (Z 65 7 0) ≤ dz_c s1.2.2.2 then (some (Sum.inr s1.2.2.1)) else (Option.bind (α := Int) (if dz_c (Int.tmod (dz_c s1.1) 3) = dz_c (Int.tmod (dz_c s1.2.1) 3) then (some 0) else (some 1)) (fun (q4 : Int) => some (Sum.inl (Int.tdiv (dz_c s1.1) 3, Int.tdiv (dz_c s1.2.1) 3, s1.2.2.1 + q4, s1.2.2.2 + 1))))) 5000 (Z 65 6 0, a1, 0, 0)
set_option maxRecDepth 20000 in
theorem jw_K_changedPegs {X : Option (List Int32)} {D : Nat} {Q : Option Value → mm_H → Prop} (a1 : Int) (Z : dz_Z) (H : dz_p (jf_K_changedPegs a1 Z) (fun q => Q (some (dz_I q)) (hz_0 Z))) : mm_Wp X D mm_r3 0 [some (.ref 65), some (dz_I a1), none, none, none, none] [] (hz_0 Z) Q := by
  unfold jf_K_changedPegs at H
  refine wp_s (i := .aload_n 0) (n := 1) (pc' := 1) (st' := [.ref 65]) rfl rfl ?_
  refine wq_gi (idx := 9) (pc' := 4) rfl rfl ho_K rfl rfl ?_
  refine wq_st (k := 2) (i := .istore_n 2) (n := 1) (ls' := [some (.ref 65), some (dz_I a1), some (dz_I (Z 65 6 0)), none, none, none]) (pc' := 5) rfl rfl rfl rfl rfl ?_
  refine wp_s (i := .iload_n 1) (n := 1) (pc' := 6) (st' := [dz_I a1]) rfl rfl ?_
  refine wq_st (k := 3) (i := .istore_n 3) (n := 1) (ls' := [some (.ref 65), some (dz_I a1), some (dz_I (Z 65 6 0)), some (dz_I a1), none, none]) (pc' := 7) rfl rfl rfl rfl rfl ?_
  refine wp_s (i := .iconst 0) (n := 1) (pc' := 8) (st' := [dz_I 0]) rfl rfl ?_
  refine wq_st (k := 4) (i := .istore 4) (n := 2) (ls' := [some (.ref 65), some (dz_I a1), some (dz_I (Z 65 6 0)), some (dz_I a1), some (dz_I 0), none]) (pc' := 10) rfl rfl rfl rfl rfl ?_
  refine wp_s (i := .iconst 0) (n := 1) (pc' := 11) (st' := [dz_I 0]) rfl rfl ?_
  refine wq_st (k := 5) (i := .istore 5) (n := 2) (ls' := [some (.ref 65), some (dz_I a1), some (dz_I (Z 65 6 0)), some (dz_I a1), some (dz_I 0), some (dz_I 0)]) (pc' := 13) rfl rfl rfl rfl rfl ?_
  refine dz_lpi (P := fun (s1 : Int × Int × Int × Int) => mm_Wp X D mm_r3 13 [some (.ref 65), some (dz_I a1), some (dz_I s1.1), some (dz_I s1.2.1), some (dz_I s1.2.2.1), some (dz_I s1.2.2.2)] [] (hz_0 Z) Q) (fun s1 H => ?_) 5000 (Z 65 6 0, a1, 0, 0) H
  refine wp_s (i := .iload 5) (n := 2) (pc' := 15) (st' := [dz_I s1.2.2.2]) rfl rfl ?_
  refine wp_s (i := .aload_n 0) (n := 1) (pc' := 16) (st' := [.ref 65, dz_I s1.2.2.2]) rfl rfl ?_
  refine wq_gi (idx := 15) (pc' := 19) rfl rfl ho_K rfl rfl ?_
  refine wq_ic (p := dz_c (Z 65 7 0) ≤ dz_c s1.2.2.2) (tt := 55) (pc' := 22) rfl rfl (cq_ge rfl rfl) rfl (fun c2 => ?_) (fun c2 => ?_)
  · replace H := dz_it c2 H
    refine wp_s (i := .iload 4) (n := 2) (pc' := 57) (st' := [dz_I s1.2.2.1]) rfl rfl ?_
    refine wq_ri rfl rfl ?_
    replace H := dz_out H
    replace H := dz_sm H
    exact H
  · replace H := dz_if c2 H
    refine wp_s (i := .iload 4) (n := 2) (pc' := 24) (st' := [dz_I s1.2.2.1]) rfl rfl ?_
    refine wp_s (i := .iload_n 2) (n := 1) (pc' := 25) (st' := [dz_I s1.1, dz_I s1.2.2.1]) rfl rfl ?_
    refine wp_s (i := .iconst 3) (n := 1) (pc' := 26) (st' := [dz_I 3, dz_I s1.1, dz_I s1.2.2.1]) rfl rfl ?_
    refine wq_2 (i := .irem) (z := Int.tmod (dz_c s1.1) 3) (pc' := 27) rfl rfl (op_rem rfl dk_3 (by decide)) rfl ?_
    refine wp_s (i := .iload_n 3) (n := 1) (pc' := 28) (st' := [dz_I s1.2.1, dz_I (Int.tmod (dz_c s1.1) 3), dz_I s1.2.2.1]) rfl rfl ?_
    refine wp_s (i := .iconst 3) (n := 1) (pc' := 29) (st' := [dz_I 3, dz_I s1.2.1, dz_I (Int.tmod (dz_c s1.1) 3), dz_I s1.2.2.1]) rfl rfl ?_
    refine wq_2 (i := .irem) (z := Int.tmod (dz_c s1.2.1) 3) (pc' := 30) rfl rfl (op_rem rfl dk_3 (by decide)) rfl ?_
    refine dz_jn (P := fun (q4 : Int) => mm_Wp X D mm_r3 38 [some (.ref 65), some (dz_I a1), some (dz_I s1.1), some (dz_I s1.2.1), some (dz_I s1.2.2.1), some (dz_I s1.2.2.2)] [dz_I q4, dz_I s1.2.2.1] (hz_0 Z) Q) (dz_bi H) (fun q4 H => ?_) (fun H => ?_)
    · skip
      refine wq_2 (i := .iadd) (z := s1.2.2.1 + q4) (pc' := 39) rfl rfl (op_add _ _) rfl ?_
      refine wq_st (k := 4) (i := .istore 4) (n := 2) (ls' := [some (.ref 65), some (dz_I a1), some (dz_I s1.1), some (dz_I s1.2.1), some (dz_I (s1.2.2.1 + q4)), some (dz_I s1.2.2.2)]) (pc' := 41) rfl rfl rfl rfl rfl ?_
      refine wp_s (i := .iload_n 2) (n := 1) (pc' := 42) (st' := [dz_I s1.1]) rfl rfl ?_
      refine wp_s (i := .iconst 3) (n := 1) (pc' := 43) (st' := [dz_I 3, dz_I s1.1]) rfl rfl ?_
      refine wq_2 (i := .idiv) (z := Int.tdiv (dz_c s1.1) 3) (pc' := 44) rfl rfl (op_div rfl dk_3 (by decide)) rfl ?_
      refine wq_st (k := 2) (i := .istore_n 2) (n := 1) (ls' := [some (.ref 65), some (dz_I a1), some (dz_I (Int.tdiv (dz_c s1.1) 3)), some (dz_I s1.2.1), some (dz_I (s1.2.2.1 + q4)), some (dz_I s1.2.2.2)]) (pc' := 45) rfl rfl rfl rfl rfl ?_
      refine wp_s (i := .iload_n 3) (n := 1) (pc' := 46) (st' := [dz_I s1.2.1]) rfl rfl ?_
      refine wp_s (i := .iconst 3) (n := 1) (pc' := 47) (st' := [dz_I 3, dz_I s1.2.1]) rfl rfl ?_
      refine wq_2 (i := .idiv) (z := Int.tdiv (dz_c s1.2.1) 3) (pc' := 48) rfl rfl (op_div rfl dk_3 (by decide)) rfl ?_
      refine wq_st (k := 3) (i := .istore_n 3) (n := 1) (ls' := [some (.ref 65), some (dz_I a1), some (dz_I (Int.tdiv (dz_c s1.1) 3)), some (dz_I (Int.tdiv (dz_c s1.2.1) 3)), some (dz_I (s1.2.2.1 + q4)), some (dz_I s1.2.2.2)]) (pc' := 49) rfl rfl rfl rfl rfl ?_
      refine wq_inc (k := 5) (d := 1) (x := s1.2.2.2) (ls' := [some (.ref 65), some (dz_I a1), some (dz_I (Int.tdiv (dz_c s1.1) 3)), some (dz_I (Int.tdiv (dz_c s1.2.1) 3)), some (dz_I (s1.2.2.1 + q4)), some (dz_I (s1.2.2.2 + 1))]) (pc' := 52) rfl rfl rfl rfl ?_
      refine wp_s (i := .goto (-39)) (n := 3) (pc' := 13) (st' := []) rfl rfl ?_
      replace H := dz_back H
      exact H
    · skip
      refine wq_ic (p := dz_c (Int.tmod (dz_c s1.1) 3) = dz_c (Int.tmod (dz_c s1.2.1) 3)) (tt := 37) (pc' := 33) rfl rfl (cq_eq rfl rfl) rfl (fun c5 => ?_) (fun c5 => ?_)
      · replace H := dz_it c5 H
        refine wp_s (i := .iconst 0) (n := 1) (pc' := 38) (st' := [dz_I 0, dz_I s1.2.2.1]) rfl rfl ?_
        replace H := dz_sm H
        exact H
      · replace H := dz_if c5 H
        refine wp_s (i := .iconst 1) (n := 1) (pc' := 34) (st' := [dz_I 1, dz_I s1.2.2.1]) rfl rfl ?_
        refine wp_s (i := .goto 4) (n := 3) (pc' := 38) (st' := [dz_I 1, dz_I s1.2.2.1]) rfl rfl ?_
        replace H := dz_sm H
        exact H
-- 2
def jf_K_offer (a1 : Int) (a2 : Int) (Z : dz_Z) : Option (dz_Z) := Option.bind (jf_K_changedPegs a1 Z) fun q1 => Option.bind (α := Int) (if dz_c (Z 65 3 0) = 0 then (some 1) else (if dz_c (Z 65 1 0) ≤ dz_c a2 then (some 0) else (some 1))) (fun (q4 : Int) => dz_a (dz_u Z 65 3 0 ((Z 65 3 0) + 1)) fun Z5 => Option.bind (α := dz_Z) (if dz_c q4 = 0 then (some Z5) else (dz_a (dz_u Z5 65 0 0 a1) fun Z20 => dz_a (dz_u Z20 65 1 0 a2) fun Z21 => dz_a (dz_u Z21 65 2 0 0) fun Z22 => some Z22)) (fun (q10 : dz_Z) => if dz_c a2 ≠ dz_c (q10 65 1 0) then (some q10) else (dz_a (dz_u q10 65 2 0 ((q10 65 2 0) + 1)) fun Z12 => if dz_c q4 ≠ 0 then (dz_a (dz_u Z12 65 4 0 a1) fun Z14 => dz_a (dz_u Z14 65 5 0 q1) fun Z15 => some Z15) else (if dz_c (Z12 65 5 0) ≤ dz_c q1 then (some Z12) else (dz_a (dz_u Z12 65 4 0 a1) fun Z17 => dz_a (dz_u Z17 65 5 0 q1) fun Z18 => some Z18)))))
set_option maxRecDepth 20000 in
theorem jw_K_offer {X : Option (List Int32)} {D : Nat} {Q : Option Value → mm_H → Prop} (a1 : Int) (a2 : Int) (Z : dz_Z) (H : dz_p (jf_K_offer a1 a2 Z) (fun q => Q (none) (hz_0 q))) : mm_Wp X (D + 1) mm_r2 0 [some (.ref 65), some (dz_I a1), some (dz_I a2), none, none] [] (hz_0 Z) Q := by
  unfold jf_K_offer at H
  refine wp_s (i := .aload_n 0) (n := 1) (pc' := 1) (st' := [.ref 65]) rfl rfl ?_
  refine wp_s (i := .iload_n 1) (n := 1) (pc' := 2) (st' := [dz_I a1, .ref 65]) rfl rfl ?_
  refine wq_cv (Dq := D) (r' := mm_r3) (as0 := [dz_I a1]) (rest := []) (ls' := [some (.ref 65), some (dz_I a1), none, none, none, none]) (pc' := 5) rfl rfl rfl rfl ho_K rfl rfl rfl ?_
  refine jw_K_changedPegs (X := X) (D := D + 0) a1 Z (dz_pm (dz_bi H) (fun q1 H => ?_))
  show mm_Wp X (D + 1) mm_r2 5 [some (.ref 65), some (dz_I a1), some (dz_I a2), none, none] [dz_I q1] (hz_0 Z) Q
  refine wq_st (k := 3) (i := .istore_n 3) (n := 1) (ls' := [some (.ref 65), some (dz_I a1), some (dz_I a2), some (dz_I q1), none]) (pc' := 6) rfl rfl rfl rfl rfl ?_
  refine wp_s (i := .aload_n 0) (n := 1) (pc' := 7) (st' := [.ref 65]) rfl rfl ?_
  refine wq_gi (idx := 18) (pc' := 10) rfl rfl ho_K rfl rfl ?_
  refine dz_jn (P := fun (q4 : Int) => mm_Wp X (D + 1) mm_r2 26 [some (.ref 65), some (dz_I a1), some (dz_I a2), some (dz_I q1), none] [dz_I q4] (hz_0 Z) Q) (dz_bi H) (fun q4 H => ?_) (fun H => ?_)
  · skip
    refine wq_st (k := 4) (i := .istore 4) (n := 2) (ls' := [some (.ref 65), some (dz_I a1), some (dz_I a2), some (dz_I q1), some (dz_I q4)]) (pc' := 28) rfl rfl rfl rfl rfl ?_
    refine wp_s (i := .aload_n 0) (n := 1) (pc' := 29) (st' := [.ref 65]) rfl rfl ?_
    refine wp_s (i := .dup) (n := 1) (pc' := 30) (st' := [.ref 65, .ref 65]) rfl rfl ?_
    refine wq_gi (idx := 18) (pc' := 33) rfl rfl ho_K rfl rfl ?_
    refine wp_s (i := .iconst 1) (n := 1) (pc' := 34) (st' := [dz_I 1, dz_I (Z 65 3 0), .ref 65]) rfl rfl ?_
    refine wq_2 (i := .iadd) (z := (Z 65 3 0) + 1) (pc' := 35) rfl rfl (op_add _ _) rfl ?_
    refine wq_pi (idx := 18) (x := (Z 65 3 0) + 1) (pc' := 38) rfl rfl rfl ho_K rfl rfl rfl rfl (fun Z5 eZ5 => ?_)
    replace H := dz_le H Z5 eZ5
    clear eZ5
    refine wp_s (i := .iload 4) (n := 2) (pc' := 40) (st' := [dz_I q4]) rfl rfl ?_
    refine dz_jn (P := fun (q10 : dz_Z) => mm_Wp X (D + 1) mm_r2 58 [some (.ref 65), some (dz_I a1), some (dz_I a2), some (dz_I q1), some (dz_I q4)] [] (hz_0 q10) Q) (dz_bi H) (fun q10 H => ?_) (fun H => ?_)
    · skip
      refine wp_s (i := .iload_n 2) (n := 1) (pc' := 59) (st' := [dz_I a2]) rfl rfl ?_
      refine wp_s (i := .aload_n 0) (n := 1) (pc' := 60) (st' := [.ref 65, dz_I a2]) rfl rfl ?_
      refine wq_gi (idx := 25) (pc' := 63) rfl rfl ho_K rfl rfl ?_
      refine wq_ic (p := dz_c a2 ≠ dz_c (q10 65 1 0)) (tt := 99) (pc' := 66) rfl rfl (cq_ne rfl rfl) rfl (fun c11 => ?_) (fun c11 => ?_)
      · replace H := dz_it c11 H
        refine wq_rv rfl rfl ?_
        replace H := dz_sm H
        exact H
      · replace H := dz_if c11 H
        refine wp_s (i := .aload_n 0) (n := 1) (pc' := 67) (st' := [.ref 65]) rfl rfl ?_
        refine wp_s (i := .dup) (n := 1) (pc' := 68) (st' := [.ref 65, .ref 65]) rfl rfl ?_
        refine wq_gi (idx := 31) (pc' := 71) rfl rfl ho_K rfl rfl ?_
        refine wp_s (i := .iconst 1) (n := 1) (pc' := 72) (st' := [dz_I 1, dz_I (q10 65 2 0), .ref 65]) rfl rfl ?_
        refine wq_2 (i := .iadd) (z := (q10 65 2 0) + 1) (pc' := 73) rfl rfl (op_add _ _) rfl ?_
        refine wq_pi (idx := 31) (x := (q10 65 2 0) + 1) (pc' := 76) rfl rfl rfl ho_K rfl rfl rfl rfl (fun Z12 eZ12 => ?_)
        replace H := dz_le H Z12 eZ12
        clear eZ12
        refine wp_s (i := .iload 4) (n := 2) (pc' := 78) (st' := [dz_I q4]) rfl rfl ?_
        refine wq_if (p := dz_c q4 ≠ 0) (tt := 89) (pc' := 81) rfl rfl (cz_ne rfl) rfl (fun c13 => ?_) (fun c13 => ?_)
        · replace H := dz_it c13 H
          refine wp_s (i := .aload_n 0) (n := 1) (pc' := 90) (st' := [.ref 65]) rfl rfl ?_
          refine wp_s (i := .iload_n 1) (n := 1) (pc' := 91) (st' := [dz_I a1, .ref 65]) rfl rfl ?_
          refine wq_pi (idx := 37) (x := a1) (pc' := 94) rfl rfl rfl ho_K rfl rfl rfl rfl (fun Z14 eZ14 => ?_)
          replace H := dz_le H Z14 eZ14
          clear eZ14
          refine wp_s (i := .aload_n 0) (n := 1) (pc' := 95) (st' := [.ref 65]) rfl rfl ?_
          refine wp_s (i := .iload_n 3) (n := 1) (pc' := 96) (st' := [dz_I q1, .ref 65]) rfl rfl ?_
          refine wq_pi (idx := 34) (x := q1) (pc' := 99) rfl rfl rfl ho_K rfl rfl rfl rfl (fun Z15 eZ15 => ?_)
          replace H := dz_le H Z15 eZ15
          clear eZ15
          refine wq_rv rfl rfl ?_
          replace H := dz_sm H
          exact H
        · replace H := dz_if c13 H
          refine wp_s (i := .iload_n 3) (n := 1) (pc' := 82) (st' := [dz_I q1]) rfl rfl ?_
          refine wp_s (i := .aload_n 0) (n := 1) (pc' := 83) (st' := [.ref 65, dz_I q1]) rfl rfl ?_
          refine wq_gi (idx := 34) (pc' := 86) rfl rfl ho_K rfl rfl ?_
          refine wq_ic (p := dz_c (Z12 65 5 0) ≤ dz_c q1) (tt := 99) (pc' := 89) rfl rfl (cq_ge rfl rfl) rfl (fun c16 => ?_) (fun c16 => ?_)
          · replace H := dz_it c16 H
            refine wq_rv rfl rfl ?_
            replace H := dz_sm H
            exact H
          · replace H := dz_if c16 H
            refine wp_s (i := .aload_n 0) (n := 1) (pc' := 90) (st' := [.ref 65]) rfl rfl ?_
            refine wp_s (i := .iload_n 1) (n := 1) (pc' := 91) (st' := [dz_I a1, .ref 65]) rfl rfl ?_
            refine wq_pi (idx := 37) (x := a1) (pc' := 94) rfl rfl rfl ho_K rfl rfl rfl rfl (fun Z17 eZ17 => ?_)
            replace H := dz_le H Z17 eZ17
            clear eZ17
            refine wp_s (i := .aload_n 0) (n := 1) (pc' := 95) (st' := [.ref 65]) rfl rfl ?_
            refine wp_s (i := .iload_n 3) (n := 1) (pc' := 96) (st' := [dz_I q1, .ref 65]) rfl rfl ?_
            refine wq_pi (idx := 34) (x := q1) (pc' := 99) rfl rfl rfl ho_K rfl rfl rfl rfl (fun Z18 eZ18 => ?_)
            replace H := dz_le H Z18 eZ18
            clear eZ18
            refine wq_rv rfl rfl ?_
            replace H := dz_sm H
            exact H
    · skip
      refine wq_if (p := dz_c q4 = 0) (tt := 58) (pc' := 43) rfl rfl (cz_eq rfl) rfl (fun c19 => ?_) (fun c19 => ?_)
      · replace H := dz_it c19 H
        replace H := dz_sm H
        exact H
      · replace H := dz_if c19 H
        refine wp_s (i := .aload_n 0) (n := 1) (pc' := 44) (st' := [.ref 65]) rfl rfl ?_
        refine wp_s (i := .iload_n 1) (n := 1) (pc' := 45) (st' := [dz_I a1, .ref 65]) rfl rfl ?_
        refine wq_pi (idx := 28) (x := a1) (pc' := 48) rfl rfl rfl ho_K rfl rfl rfl rfl (fun Z20 eZ20 => ?_)
        replace H := dz_le H Z20 eZ20
        clear eZ20
        refine wp_s (i := .aload_n 0) (n := 1) (pc' := 49) (st' := [.ref 65]) rfl rfl ?_
        refine wp_s (i := .iload_n 2) (n := 1) (pc' := 50) (st' := [dz_I a2, .ref 65]) rfl rfl ?_
        refine wq_pi (idx := 25) (x := a2) (pc' := 53) rfl rfl rfl ho_K rfl rfl rfl rfl (fun Z21 eZ21 => ?_)
        replace H := dz_le H Z21 eZ21
        clear eZ21
        refine wp_s (i := .aload_n 0) (n := 1) (pc' := 54) (st' := [.ref 65]) rfl rfl ?_
        refine wp_s (i := .iconst 0) (n := 1) (pc' := 55) (st' := [dz_I 0, .ref 65]) rfl rfl ?_
        refine wq_pi (idx := 31) (x := 0) (pc' := 58) rfl rfl rfl ho_K rfl rfl rfl rfl (fun Z22 eZ22 => ?_)
        replace H := dz_le H Z22 eZ22
        clear eZ22
        replace H := dz_sm H
        exact H
  · skip
    refine wq_if (p := dz_c (Z 65 3 0) = 0) (tt := 21) (pc' := 13) rfl rfl (cz_eq rfl) rfl (fun c23 => ?_) (fun c23 => ?_)
    · replace H := dz_it c23 H
      refine wp_s (i := .iconst 1) (n := 1) (pc' := 22) (st' := [dz_I 1]) rfl rfl ?_
      refine wp_s (i := .goto 4) (n := 3) (pc' := 26) (st' := [dz_I 1]) rfl rfl ?_
      replace H := dz_sm H
      exact H
    · replace H := dz_if c23 H
      refine wp_s (i := .iload_n 2) (n := 1) (pc' := 14) (st' := [dz_I a2]) rfl rfl ?_
      refine wp_s (i := .aload_n 0) (n := 1) (pc' := 15) (st' := [.ref 65, dz_I a2]) rfl rfl ?_
      refine wq_gi (idx := 25) (pc' := 18) rfl rfl ho_K rfl rfl ?_
      refine wq_ic (p := dz_c (Z 65 1 0) ≤ dz_c a2) (tt := 25) (pc' := 21) rfl rfl (cq_ge rfl rfl) rfl (fun c24 => ?_) (fun c24 => ?_)
      · replace H := dz_it c24 H
        refine wp_s (i := .iconst 0) (n := 1) (pc' := 26) (st' := [dz_I 0]) rfl rfl ?_
        replace H := dz_sm H
        exact H
      · replace H := dz_if c24 H
        refine wp_s (i := .iconst 1) (n := 1) (pc' := 22) (st' := [dz_I 1]) rfl rfl ?_
        refine wp_s (i := .goto 4) (n := 3) (pc' := 26) (st' := [dz_I 1]) rfl rfl ?_
        replace H := dz_sm H
        exact H
-- 10
def jf_F_dryUp (c0 : Nat) (Z : dz_Z) : Option (dz_Z) := dz_a (dz_f Z c0 0 (fun _ => 0)) fun Z1 => dz_a (dz_f Z1 c0 1 (fun _ => 0)) fun Z2 => dz_a (dz_f Z2 c0 2 (fun _ => 0)) fun Z3 => dz_a (dz_f Z3 c0 3 (fun _ => 0)) fun Z4 => dz_a (dz_f Z4 c0 4 (fun _ => 0)) fun Z5 => dz_a (dz_u Z5 c0 5 0 0) fun Z6 => dz_a (dz_u Z6 c0 6 0 0) fun Z7 => dz_a (dz_u Z7 c0 7 0 0) fun Z8 => dz_a (dz_u Z8 c0 8 0 0) fun Z9 => dz_a (dz_u Z9 c0 9 0 0) fun Z10 => some Z10
set_option maxRecDepth 20000 in
theorem jw_F_dryUp {X : Option (List Int32)} {D : Nat} {Q : Option Value → mm_H → Prop} (c0 : Nat) (hc0 : hz_isF c0) (Z : dz_Z) (H : dz_p (jf_F_dryUp c0 Z) (fun q => Q (none) (hz_0 q))) : mm_Wp X (D + 1) mm_r10 0 [some (.ref c0)] [] (hz_0 Z) Q := by
  unfold jf_F_dryUp at H
  refine wp_s (i := .aload_n 0) (n := 1) (pc' := 1) (st' := [.ref c0]) rfl rfl ?_
  refine wq_gr (idx := 9) (a := c0 + 1) (pc' := 4) rfl rfl (ho_F hc0) rfl rfl ?_
  refine wp_s (i := .iconst 0) (n := 1) (pc' := 5) (st' := [dz_I 0, .ref (c0 + 1)]) rfl rfl ?_
  refine wq_cs (Dq := D) (r' := mm_r200) (as0 := [.ref (c0 + 1), dz_I 0]) (rest := []) (ls' := [some (.ref (c0 + 1)), some (dz_I 0), none, none]) (pc' := 8) rfl rfl (by decide) rfl rfl rfl rfl rfl ?_
  refine jw_fillI (ha_F_0 hc0) (by decide) (fun Z1 eZ1 => ?_)
  replace H := dz_le H Z1 eZ1
  clear eZ1
  show mm_Wp X (D + 1) mm_r10 8 [some (.ref c0)] [] (hz_0 Z1) Q
  refine wp_s (i := .aload_n 0) (n := 1) (pc' := 9) (st' := [.ref c0]) rfl rfl ?_
  refine wq_gr (idx := 15) (a := c0 + 2) (pc' := 12) rfl rfl (ho_F hc0) rfl rfl ?_
  refine wp_s (i := .iconst 0) (n := 1) (pc' := 13) (st' := [dz_I 0, .ref (c0 + 2)]) rfl rfl ?_
  refine wq_cs (Dq := D) (r' := mm_r200) (as0 := [.ref (c0 + 2), dz_I 0]) (rest := []) (ls' := [some (.ref (c0 + 2)), some (dz_I 0), none, none]) (pc' := 16) rfl rfl (by decide) rfl rfl rfl rfl rfl ?_
  refine jw_fillI (ha_F_1 hc0) (by decide) (fun Z2 eZ2 => ?_)
  replace H := dz_le H Z2 eZ2
  clear eZ2
  show mm_Wp X (D + 1) mm_r10 16 [some (.ref c0)] [] (hz_0 Z2) Q
  refine wp_s (i := .aload_n 0) (n := 1) (pc' := 17) (st' := [.ref c0]) rfl rfl ?_
  refine wq_gr (idx := 18) (a := c0 + 3) (pc' := 20) rfl rfl (ho_F hc0) rfl rfl ?_
  refine wp_s (i := .lconst 0) (n := 1) (pc' := 21) (st' := [dz_J 0, .ref (c0 + 3)]) rfl rfl ?_
  refine wq_cs (Dq := D) (r' := mm_r199) (as0 := [.ref (c0 + 3), dz_J 0]) (rest := []) (ls' := [some (.ref (c0 + 3)), some (dz_J 0), none, none, none]) (pc' := 24) rfl rfl (by decide) rfl rfl rfl rfl rfl ?_
  refine jw_fillJ (ha_F_2 hc0) (by decide) (fun Z3 eZ3 => ?_)
  replace H := dz_le H Z3 eZ3
  clear eZ3
  show mm_Wp X (D + 1) mm_r10 24 [some (.ref c0)] [] (hz_0 Z3) Q
  refine wp_s (i := .aload_n 0) (n := 1) (pc' := 25) (st' := [.ref c0]) rfl rfl ?_
  refine wq_gr (idx := 22) (a := c0 + 4) (pc' := 28) rfl rfl (ho_F hc0) rfl rfl ?_
  refine wp_s (i := .iconst 0) (n := 1) (pc' := 29) (st' := [dz_I 0, .ref (c0 + 4)]) rfl rfl ?_
  refine wq_cs (Dq := D) (r' := mm_r200) (as0 := [.ref (c0 + 4), dz_I 0]) (rest := []) (ls' := [some (.ref (c0 + 4)), some (dz_I 0), none, none]) (pc' := 32) rfl rfl (by decide) rfl rfl rfl rfl rfl ?_
  refine jw_fillI (ha_F_3 hc0) (by decide) (fun Z4 eZ4 => ?_)
  replace H := dz_le H Z4 eZ4
  clear eZ4
  show mm_Wp X (D + 1) mm_r10 32 [some (.ref c0)] [] (hz_0 Z4) Q
  refine wp_s (i := .aload_n 0) (n := 1) (pc' := 33) (st' := [.ref c0]) rfl rfl ?_
  refine wq_gr (idx := 25) (a := c0 + 5) (pc' := 36) rfl rfl (ho_F hc0) rfl rfl ?_
  refine wp_s (i := .iconst 0) (n := 1) (pc' := 37) (st' := [dz_I 0, .ref (c0 + 5)]) rfl rfl ?_
  refine wq_cs (Dq := D) (r' := mm_r200) (as0 := [.ref (c0 + 5), dz_I 0]) (rest := []) (ls' := [some (.ref (c0 + 5)), some (dz_I 0), none, none]) (pc' := 40) rfl rfl (by decide) rfl rfl rfl rfl rfl ?_
  refine jw_fillI (ha_F_4 hc0) (by decide) (fun Z5 eZ5 => ?_)
  replace H := dz_le H Z5 eZ5
  clear eZ5
  show mm_Wp X (D + 1) mm_r10 40 [some (.ref c0)] [] (hz_0 Z5) Q
  refine wp_s (i := .aload_n 0) (n := 1) (pc' := 41) (st' := [.ref c0]) rfl rfl ?_
  refine wp_s (i := .iconst 0) (n := 1) (pc' := 42) (st' := [dz_I 0, .ref c0]) rfl rfl ?_
  refine wq_pi (idx := 43) (x := 0) (pc' := 45) rfl rfl rfl (ho_F hc0) rfl rfl rfl rfl (fun Z6 eZ6 => ?_)
  replace H := dz_le H Z6 eZ6
  clear eZ6
  refine wp_s (i := .aload_n 0) (n := 1) (pc' := 46) (st' := [.ref c0]) rfl rfl ?_
  refine wp_s (i := .iconst 0) (n := 1) (pc' := 47) (st' := [dz_I 0, .ref c0]) rfl rfl ?_
  refine wq_pi (idx := 47) (x := 0) (pc' := 50) rfl rfl rfl (ho_F hc0) rfl rfl rfl rfl (fun Z7 eZ7 => ?_)
  replace H := dz_le H Z7 eZ7
  clear eZ7
  refine wp_s (i := .aload_n 0) (n := 1) (pc' := 51) (st' := [.ref c0]) rfl rfl ?_
  refine wp_s (i := .iconst 0) (n := 1) (pc' := 52) (st' := [dz_I 0, .ref c0]) rfl rfl ?_
  refine wq_pi (idx := 50) (x := 0) (pc' := 55) rfl rfl rfl (ho_F hc0) rfl rfl rfl rfl (fun Z8 eZ8 => ?_)
  replace H := dz_le H Z8 eZ8
  clear eZ8
  refine wp_s (i := .aload_n 0) (n := 1) (pc' := 56) (st' := [.ref c0]) rfl rfl ?_
  refine wp_s (i := .iconst 0) (n := 1) (pc' := 57) (st' := [dz_I 0, .ref c0]) rfl rfl ?_
  refine wq_pi (idx := 53) (x := 0) (pc' := 60) rfl rfl rfl (ho_F hc0) rfl rfl rfl rfl (fun Z9 eZ9 => ?_)
  replace H := dz_le H Z9 eZ9
  clear eZ9
  refine wp_s (i := .aload_n 0) (n := 1) (pc' := 61) (st' := [.ref c0]) rfl rfl ?_
  refine wp_s (i := .iconst 0) (n := 1) (pc' := 62) (st' := [dz_I 0, .ref c0]) rfl rfl ?_
  refine wq_pi (idx := 56) (x := 0) (pc' := 65) rfl rfl rfl (ho_F hc0) rfl rfl rfl rfl (fun Z10 eZ10 => ?_)
  replace H := dz_le H Z10 eZ10
  clear eZ10
  refine wq_rv rfl rfl ?_
  replace H := dz_sm H
  exact H
-- 16
def jf_F_lead (c0 : Nat) (a1 : Int) (a2 : Int) (Z : dz_Z) : Option (dz_Z) := if dz_c a1 < 0 then (if dz_c a1 < 10 then (dz_a (dz_u Z c0 7 0 ((Z c0 7 0) + a2)) fun Z3 => some Z3) else (if 18 ≤ dz_c a1 then (dz_a (dz_u Z c0 7 0 ((Z c0 7 0) + a2)) fun Z5 => some Z5) else (if 0 ≤ dz_c (a1 - 10) ∧ dz_c (a1 - 10) < 8 then dz_a (dz_u Z c0 11 (dz_c (a1 - 10)) ((Z c0 11 (dz_c (a1 - 10))) + a2)) fun Z7 => some Z7 else none))) else (if 5 ≤ dz_c a1 then (if dz_c a1 < 10 then (dz_a (dz_u Z c0 7 0 ((Z c0 7 0) + a2)) fun Z10 => some Z10) else (if 18 ≤ dz_c a1 then (dz_a (dz_u Z c0 7 0 ((Z c0 7 0) + a2)) fun Z12 => some Z12) else (if 0 ≤ dz_c (a1 - 10) ∧ dz_c (a1 - 10) < 8 then dz_a (dz_u Z c0 11 (dz_c (a1 - 10)) ((Z c0 11 (dz_c (a1 - 10))) + a2)) fun Z14 => some Z14 else none))) else (if 0 ≤ dz_c a1 ∧ dz_c a1 < 5 then dz_a (dz_u Z c0 10 (dz_c a1) ((Z c0 10 (dz_c a1)) + a2)) fun Z16 => some Z16 else none))
set_option maxRecDepth 20000 in
theorem jw_F_lead {X : Option (List Int32)} {D : Nat} {Q : Option Value → mm_H → Prop} (c0 : Nat) (hc0 : hz_isF c0) (a1 : Int) (a2 : Int) (Z : dz_Z) (H : dz_p (jf_F_lead c0 a1 a2 Z) (fun q => Q (none) (hz_0 q))) : mm_Wp X D mm_r16 0 [some (.ref c0), some (dz_I a1), some (dz_I a2)] [] (hz_0 Z) Q := by
  unfold jf_F_lead at H
  refine wp_s (i := .iload_n 1) (n := 1) (pc' := 1) (st' := [dz_I a1]) rfl rfl ?_
  refine wq_if (p := dz_c a1 < 0) (tt := 22) (pc' := 4) rfl rfl (cz_lt rfl) rfl (fun c1 => ?_) (fun c1 => ?_)
  · replace H := dz_it c1 H
    refine wp_s (i := .iload_n 1) (n := 1) (pc' := 23) (st' := [dz_I a1]) rfl rfl ?_
    refine wp_s (i := .bipush 10) (n := 2) (pc' := 25) (st' := [dz_I 10, dz_I a1]) rfl rfl ?_
    refine wq_ic (p := dz_c a1 < 10) (tt := 50) (pc' := 28) rfl rfl (cq_lt rfl dk_10) rfl (fun c2 => ?_) (fun c2 => ?_)
    · replace H := dz_it c2 H
      refine wp_s (i := .aload_n 0) (n := 1) (pc' := 51) (st' := [.ref c0]) rfl rfl ?_
      refine wp_s (i := .dup) (n := 1) (pc' := 52) (st' := [.ref c0, .ref c0]) rfl rfl ?_
      refine wq_gi (idx := 50) (pc' := 55) rfl rfl (ho_F hc0) rfl rfl ?_
      refine wp_s (i := .iload_n 2) (n := 1) (pc' := 56) (st' := [dz_I a2, dz_I (Z c0 7 0), .ref c0]) rfl rfl ?_
      refine wq_2 (i := .iadd) (z := (Z c0 7 0) + a2) (pc' := 57) rfl rfl (op_add _ _) rfl ?_
      refine wq_pi (idx := 50) (x := (Z c0 7 0) + a2) (pc' := 60) rfl rfl rfl (ho_F hc0) rfl rfl rfl rfl (fun Z3 eZ3 => ?_)
      replace H := dz_le H Z3 eZ3
      clear eZ3
      refine wq_rv rfl rfl ?_
      replace H := dz_sm H
      exact H
    · replace H := dz_if c2 H
      refine wp_s (i := .iload_n 1) (n := 1) (pc' := 29) (st' := [dz_I a1]) rfl rfl ?_
      refine wp_s (i := .bipush 18) (n := 2) (pc' := 31) (st' := [dz_I 18, dz_I a1]) rfl rfl ?_
      refine wq_ic (p := 18 ≤ dz_c a1) (tt := 50) (pc' := 34) rfl rfl (cq_ge rfl dk_18) rfl (fun c4 => ?_) (fun c4 => ?_)
      · replace H := dz_it c4 H
        refine wp_s (i := .aload_n 0) (n := 1) (pc' := 51) (st' := [.ref c0]) rfl rfl ?_
        refine wp_s (i := .dup) (n := 1) (pc' := 52) (st' := [.ref c0, .ref c0]) rfl rfl ?_
        refine wq_gi (idx := 50) (pc' := 55) rfl rfl (ho_F hc0) rfl rfl ?_
        refine wp_s (i := .iload_n 2) (n := 1) (pc' := 56) (st' := [dz_I a2, dz_I (Z c0 7 0), .ref c0]) rfl rfl ?_
        refine wq_2 (i := .iadd) (z := (Z c0 7 0) + a2) (pc' := 57) rfl rfl (op_add _ _) rfl ?_
        refine wq_pi (idx := 50) (x := (Z c0 7 0) + a2) (pc' := 60) rfl rfl rfl (ho_F hc0) rfl rfl rfl rfl (fun Z5 eZ5 => ?_)
        replace H := dz_le H Z5 eZ5
        clear eZ5
        refine wq_rv rfl rfl ?_
        replace H := dz_sm H
        exact H
      · replace H := dz_if c4 H
        refine wp_s (i := .aload_n 0) (n := 1) (pc' := 35) (st' := [.ref c0]) rfl rfl ?_
        refine wq_gr (idx := 31) (a := c0 + 7) (pc' := 38) rfl rfl (ho_F hc0) rfl rfl ?_
        refine wp_s (i := .iload_n 1) (n := 1) (pc' := 39) (st' := [dz_I a1, .ref (c0 + 7)]) rfl rfl ?_
        refine wp_s (i := .bipush 10) (n := 2) (pc' := 41) (st' := [dz_I 10, dz_I a1, .ref (c0 + 7)]) rfl rfl ?_
        refine wq_2 (i := .isub) (z := a1 - 10) (pc' := 42) rfl rfl (op_sub _ _) rfl ?_
        refine wp_s (i := .dup2) (n := 1) (pc' := 43) (st' := [dz_I (a1 - 10), .ref (c0 + 7), dz_I (a1 - 10), .ref (c0 + 7)]) rfl rfl ?_
        obtain ⟨k6, H⟩ := dz_ck H
        refine wq_ia (j' := dz_c (a1 - 10)) (pc' := 44) rfl (ha_F_11 hc0) rfl k6.1 k6.2 rfl ?_
        refine wp_s (i := .iload_n 2) (n := 1) (pc' := 45) (st' := [dz_I a2, dz_I (Z c0 11 (dz_c (a1 - 10))), dz_I (a1 - 10), .ref (c0 + 7)]) rfl rfl ?_
        refine wq_2 (i := .iadd) (z := (Z c0 11 (dz_c (a1 - 10))) + a2) (pc' := 46) rfl rfl (op_add _ _) rfl ?_
        refine wq_is (j' := dz_c (a1 - 10)) (x := (Z c0 11 (dz_c (a1 - 10))) + a2) (pc' := 47) rfl (ha_F_11 hc0) rfl k6.1 k6.2 rfl (fun Z7 eZ7 => ?_)
        replace H := dz_le H Z7 eZ7
        clear eZ7
        refine wp_s (i := .goto 13) (n := 3) (pc' := 60) (st' := []) rfl rfl ?_
        refine wq_rv rfl rfl ?_
        replace H := dz_sm H
        exact H
  · replace H := dz_if c1 H
    refine wp_s (i := .iload_n 1) (n := 1) (pc' := 5) (st' := [dz_I a1]) rfl rfl ?_
    refine wp_s (i := .iconst 5) (n := 1) (pc' := 6) (st' := [dz_I 5, dz_I a1]) rfl rfl ?_
    refine wq_ic (p := 5 ≤ dz_c a1) (tt := 22) (pc' := 9) rfl rfl (cq_ge rfl dk_5) rfl (fun c8 => ?_) (fun c8 => ?_)
    · replace H := dz_it c8 H
      refine wp_s (i := .iload_n 1) (n := 1) (pc' := 23) (st' := [dz_I a1]) rfl rfl ?_
      refine wp_s (i := .bipush 10) (n := 2) (pc' := 25) (st' := [dz_I 10, dz_I a1]) rfl rfl ?_
      refine wq_ic (p := dz_c a1 < 10) (tt := 50) (pc' := 28) rfl rfl (cq_lt rfl dk_10) rfl (fun c9 => ?_) (fun c9 => ?_)
      · replace H := dz_it c9 H
        refine wp_s (i := .aload_n 0) (n := 1) (pc' := 51) (st' := [.ref c0]) rfl rfl ?_
        refine wp_s (i := .dup) (n := 1) (pc' := 52) (st' := [.ref c0, .ref c0]) rfl rfl ?_
        refine wq_gi (idx := 50) (pc' := 55) rfl rfl (ho_F hc0) rfl rfl ?_
        refine wp_s (i := .iload_n 2) (n := 1) (pc' := 56) (st' := [dz_I a2, dz_I (Z c0 7 0), .ref c0]) rfl rfl ?_
        refine wq_2 (i := .iadd) (z := (Z c0 7 0) + a2) (pc' := 57) rfl rfl (op_add _ _) rfl ?_
        refine wq_pi (idx := 50) (x := (Z c0 7 0) + a2) (pc' := 60) rfl rfl rfl (ho_F hc0) rfl rfl rfl rfl (fun Z10 eZ10 => ?_)
        replace H := dz_le H Z10 eZ10
        clear eZ10
        refine wq_rv rfl rfl ?_
        replace H := dz_sm H
        exact H
      · replace H := dz_if c9 H
        refine wp_s (i := .iload_n 1) (n := 1) (pc' := 29) (st' := [dz_I a1]) rfl rfl ?_
        refine wp_s (i := .bipush 18) (n := 2) (pc' := 31) (st' := [dz_I 18, dz_I a1]) rfl rfl ?_
        refine wq_ic (p := 18 ≤ dz_c a1) (tt := 50) (pc' := 34) rfl rfl (cq_ge rfl dk_18) rfl (fun c11 => ?_) (fun c11 => ?_)
        · replace H := dz_it c11 H
          refine wp_s (i := .aload_n 0) (n := 1) (pc' := 51) (st' := [.ref c0]) rfl rfl ?_
          refine wp_s (i := .dup) (n := 1) (pc' := 52) (st' := [.ref c0, .ref c0]) rfl rfl ?_
          refine wq_gi (idx := 50) (pc' := 55) rfl rfl (ho_F hc0) rfl rfl ?_
          refine wp_s (i := .iload_n 2) (n := 1) (pc' := 56) (st' := [dz_I a2, dz_I (Z c0 7 0), .ref c0]) rfl rfl ?_
          refine wq_2 (i := .iadd) (z := (Z c0 7 0) + a2) (pc' := 57) rfl rfl (op_add _ _) rfl ?_
          refine wq_pi (idx := 50) (x := (Z c0 7 0) + a2) (pc' := 60) rfl rfl rfl (ho_F hc0) rfl rfl rfl rfl (fun Z12 eZ12 => ?_)
          replace H := dz_le H Z12 eZ12
          clear eZ12
          refine wq_rv rfl rfl ?_
          replace H := dz_sm H
          exact H
        · replace H := dz_if c11 H
          refine wp_s (i := .aload_n 0) (n := 1) (pc' := 35) (st' := [.ref c0]) rfl rfl ?_
          refine wq_gr (idx := 31) (a := c0 + 7) (pc' := 38) rfl rfl (ho_F hc0) rfl rfl ?_
          refine wp_s (i := .iload_n 1) (n := 1) (pc' := 39) (st' := [dz_I a1, .ref (c0 + 7)]) rfl rfl ?_
          refine wp_s (i := .bipush 10) (n := 2) (pc' := 41) (st' := [dz_I 10, dz_I a1, .ref (c0 + 7)]) rfl rfl ?_
          refine wq_2 (i := .isub) (z := a1 - 10) (pc' := 42) rfl rfl (op_sub _ _) rfl ?_
          refine wp_s (i := .dup2) (n := 1) (pc' := 43) (st' := [dz_I (a1 - 10), .ref (c0 + 7), dz_I (a1 - 10), .ref (c0 + 7)]) rfl rfl ?_
          obtain ⟨k13, H⟩ := dz_ck H
          refine wq_ia (j' := dz_c (a1 - 10)) (pc' := 44) rfl (ha_F_11 hc0) rfl k13.1 k13.2 rfl ?_
          refine wp_s (i := .iload_n 2) (n := 1) (pc' := 45) (st' := [dz_I a2, dz_I (Z c0 11 (dz_c (a1 - 10))), dz_I (a1 - 10), .ref (c0 + 7)]) rfl rfl ?_
          refine wq_2 (i := .iadd) (z := (Z c0 11 (dz_c (a1 - 10))) + a2) (pc' := 46) rfl rfl (op_add _ _) rfl ?_
          refine wq_is (j' := dz_c (a1 - 10)) (x := (Z c0 11 (dz_c (a1 - 10))) + a2) (pc' := 47) rfl (ha_F_11 hc0) rfl k13.1 k13.2 rfl (fun Z14 eZ14 => ?_)
          replace H := dz_le H Z14 eZ14
          clear eZ14
          refine wp_s (i := .goto 13) (n := 3) (pc' := 60) (st' := []) rfl rfl ?_
          refine wq_rv rfl rfl ?_
          replace H := dz_sm H
          exact H
    · replace H := dz_if c8 H
      refine wp_s (i := .aload_n 0) (n := 1) (pc' := 10) (st' := [.ref c0]) rfl rfl ?_
      refine wq_gr (idx := 28) (a := c0 + 6) (pc' := 13) rfl rfl (ho_F hc0) rfl rfl ?_
      refine wp_s (i := .iload_n 1) (n := 1) (pc' := 14) (st' := [dz_I a1, .ref (c0 + 6)]) rfl rfl ?_
      refine wp_s (i := .dup2) (n := 1) (pc' := 15) (st' := [dz_I a1, .ref (c0 + 6), dz_I a1, .ref (c0 + 6)]) rfl rfl ?_
      obtain ⟨k15, H⟩ := dz_ck H
      refine wq_ia (j' := dz_c a1) (pc' := 16) rfl (ha_F_10 hc0) rfl k15.1 k15.2 rfl ?_
      refine wp_s (i := .iload_n 2) (n := 1) (pc' := 17) (st' := [dz_I a2, dz_I (Z c0 10 (dz_c a1)), dz_I a1, .ref (c0 + 6)]) rfl rfl ?_
      refine wq_2 (i := .iadd) (z := (Z c0 10 (dz_c a1)) + a2) (pc' := 18) rfl rfl (op_add _ _) rfl ?_
      refine wq_is (j' := dz_c a1) (x := (Z c0 10 (dz_c a1)) + a2) (pc' := 19) rfl (ha_F_10 hc0) rfl k15.1 k15.2 rfl (fun Z16 eZ16 => ?_)
      replace H := dz_le H Z16 eZ16
      clear eZ16
      refine wp_s (i := .goto 41) (n := 3) (pc' := 60) (st' := []) rfl rfl ?_
      refine wq_rv rfl rfl ?_
      replace H := dz_sm H
      exact H
-- 13
def jf_F_fallOnRoofs (c0 : Nat) (a1 : Nat) (a2 : Int) (Z : dz_Z) : Option (dz_Z) := dz_lp (fun (s1 : Int × dz_Z) => if dz_c (s1.2 a1 0 0) ≤ dz_c s1.1 then (some (Sum.inr s1.2)) else (if 0 ≤ dz_c s1.1 ∧ dz_c s1.1 < 4 then dz_a (dz_u s1.2 c0 6 0 ((s1.2 c0 6 0) + ((s1.2 a1 1 (dz_c s1.1)) * a2))) fun Z5 => Option.bind (jf_F_lead c0 (Z5 a1 2 (dz_c s1.1)) ((s1.2 a1 1 (dz_c s1.1)) * a2) Z5) fun q6 => some (Sum.inl (s1.1 + 1, q6)) else none)) 5000 (0, Z)
set_option maxRecDepth 20000 in
theorem jw_F_fallOnRoofs {X : Option (List Int32)} {D : Nat} {Q : Option Value → mm_H → Prop} (c0 : Nat) (hc0 : hz_isF c0) (a1 : Nat) (ha1 : hz_isP a1) (a2 : Int) (Z : dz_Z) (H : dz_p (jf_F_fallOnRoofs c0 a1 a2 Z) (fun q => Q (none) (hz_0 q))) : mm_Wp X (D + 1) mm_r13 0 [some (.ref c0), some (.ref a1), some (dz_I a2), none, none] [] (hz_0 Z) Q := by
  unfold jf_F_fallOnRoofs at H
  refine wp_s (i := .iconst 0) (n := 1) (pc' := 1) (st' := [dz_I 0]) rfl rfl ?_
  refine wq_st (k := 3) (i := .istore_n 3) (n := 1) (ls' := [some (.ref c0), some (.ref a1), some (dz_I a2), some (dz_I 0), none]) (pc' := 2) rfl rfl rfl rfl rfl ?_
  refine dz_lpi (P := fun (s1 : Int × dz_Z) => ∀ (u2 : Option Int32), mm_Wp X (D + 1) mm_r13 2 [some (.ref c0), some (.ref a1), some (dz_I a2), some (dz_I s1.1), Option.map Value.int u2] [] (hz_0 s1.2) Q) (fun s1 H => ?_) 5000 (0, Z) H none
  intro u2
  refine wp_s (i := .iload_n 3) (n := 1) (pc' := 3) (st' := [dz_I s1.1]) rfl rfl ?_
  refine wp_s (i := .aload_n 1) (n := 1) (pc' := 4) (st' := [.ref a1, dz_I s1.1]) rfl rfl ?_
  refine wq_gi (idx := 77) (pc' := 7) rfl rfl (ho_P ha1) rfl rfl ?_
  refine wq_ic (p := dz_c (s1.2 a1 0 0) ≤ dz_c s1.1) (tt := 49) (pc' := 10) rfl rfl (cq_ge rfl rfl) rfl (fun c3 => ?_) (fun c3 => ?_)
  · replace H := dz_it c3 H
    refine wq_rv rfl rfl ?_
    replace H := dz_out H
    replace H := dz_sm H
    exact H
  · replace H := dz_if c3 H
    refine wp_s (i := .aload_n 1) (n := 1) (pc' := 11) (st' := [.ref a1]) rfl rfl ?_
    refine wq_gr (idx := 82) (a := a1 + 1) (pc' := 14) rfl rfl (ho_P ha1) rfl rfl ?_
    refine wp_s (i := .iload_n 3) (n := 1) (pc' := 15) (st' := [dz_I s1.1, .ref (a1 + 1)]) rfl rfl ?_
    obtain ⟨k4, H⟩ := dz_ck H
    refine wq_ia (j' := dz_c s1.1) (pc' := 16) rfl (ha_P_1 ha1) rfl k4.1 k4.2 rfl ?_
    refine wp_s (i := .iload_n 2) (n := 1) (pc' := 17) (st' := [dz_I a2, dz_I (s1.2 a1 1 (dz_c s1.1))]) rfl rfl ?_
    refine wq_2 (i := .imul) (z := (s1.2 a1 1 (dz_c s1.1)) * a2) (pc' := 18) rfl rfl (op_mul _ _) rfl ?_
    refine wq_st (k := 4) (i := .istore 4) (n := 2) (ls' := [some (.ref c0), some (.ref a1), some (dz_I a2), some (dz_I s1.1), some (dz_I ((s1.2 a1 1 (dz_c s1.1)) * a2))]) (pc' := 20) rfl rfl rfl rfl rfl ?_
    refine wp_s (i := .aload_n 0) (n := 1) (pc' := 21) (st' := [.ref c0]) rfl rfl ?_
    refine wp_s (i := .dup) (n := 1) (pc' := 22) (st' := [.ref c0, .ref c0]) rfl rfl ?_
    refine wq_gi (idx := 47) (pc' := 25) rfl rfl (ho_F hc0) rfl rfl ?_
    refine wp_s (i := .iload 4) (n := 2) (pc' := 27) (st' := [dz_I ((s1.2 a1 1 (dz_c s1.1)) * a2), dz_I (s1.2 c0 6 0), .ref c0]) rfl rfl ?_
    refine wq_2 (i := .iadd) (z := (s1.2 c0 6 0) + ((s1.2 a1 1 (dz_c s1.1)) * a2)) (pc' := 28) rfl rfl (op_add _ _) rfl ?_
    refine wq_pi (idx := 47) (x := (s1.2 c0 6 0) + ((s1.2 a1 1 (dz_c s1.1)) * a2)) (pc' := 31) rfl rfl rfl (ho_F hc0) rfl rfl rfl rfl (fun Z5 eZ5 => ?_)
    replace H := dz_le H Z5 eZ5
    clear eZ5
    refine wp_s (i := .aload_n 0) (n := 1) (pc' := 32) (st' := [.ref c0]) rfl rfl ?_
    refine wp_s (i := .aload_n 1) (n := 1) (pc' := 33) (st' := [.ref a1, .ref c0]) rfl rfl ?_
    refine wq_gr (idx := 85) (a := a1 + 2) (pc' := 36) rfl rfl (ho_P ha1) rfl rfl ?_
    refine wp_s (i := .iload_n 3) (n := 1) (pc' := 37) (st' := [dz_I s1.1, .ref (a1 + 2), .ref c0]) rfl rfl ?_
    refine wq_ia (j' := dz_c s1.1) (pc' := 38) rfl (ha_P_2 ha1) rfl k4.1 k4.2 rfl ?_
    refine wp_s (i := .iload 4) (n := 2) (pc' := 40) (st' := [dz_I ((s1.2 a1 1 (dz_c s1.1)) * a2), dz_I (Z5 a1 2 (dz_c s1.1)), .ref c0]) rfl rfl ?_
    refine wq_cv (Dq := D) (r' := mm_r16) (as0 := [dz_I (Z5 a1 2 (dz_c s1.1)), dz_I ((s1.2 a1 1 (dz_c s1.1)) * a2)]) (rest := []) (ls' := [some (.ref c0), some (dz_I (Z5 a1 2 (dz_c s1.1))), some (dz_I ((s1.2 a1 1 (dz_c s1.1)) * a2))]) (pc' := 43) rfl rfl rfl rfl (ho_F hc0) rfl rfl rfl ?_
    refine jw_F_lead (X := X) (D := D + 0) c0 hc0 (Z5 a1 2 (dz_c s1.1)) ((s1.2 a1 1 (dz_c s1.1)) * a2) Z5 (dz_pm (dz_bi H) (fun q6 H => ?_))
    show mm_Wp X (D + 1) mm_r13 43 [some (.ref c0), some (.ref a1), some (dz_I a2), some (dz_I s1.1), some (dz_I ((s1.2 a1 1 (dz_c s1.1)) * a2))] [] (hz_0 q6) Q
    refine wq_inc (k := 3) (d := 1) (x := s1.1) (ls' := [some (.ref c0), some (.ref a1), some (dz_I a2), some (dz_I (s1.1 + 1)), some (dz_I ((s1.2 a1 1 (dz_c s1.1)) * a2))]) (pc' := 46) rfl rfl rfl rfl ?_
    refine wp_s (i := .goto (-44)) (n := 3) (pc' := 2) (st' := []) rfl rfl ?_
    replace H := dz_back H
    exact H (some (Int32.ofInt ((s1.2 a1 1 (dz_c s1.1)) * a2)))
-- 15
def jf_F_shareOfLeft (c0 : Nat) (a1 : Int) (a2 : Int) (Z : dz_Z) : Option (Int) := if dz_c a1 ≠ 0 then (if dz_c a1 ≠ 1 then (Option.bind (α := Int) (if dz_c (Int.tmod (dz_c (Z c0 5 0)) 2) ≠ 0 then (some 0) else (some 1)) (fun (q4 : Int) => if dz_c q4 = 0 then (some (Int.tdiv (dz_c a2) 2)) else (some (a2 - (Int.tdiv (dz_c a2) 2))))) else (some 0)) else (some a2)
set_option maxRecDepth 20000 in
theorem jw_F_shareOfLeft {X : Option (List Int32)} {D : Nat} {Q : Option Value → mm_H → Prop} (c0 : Nat) (hc0 : hz_isF c0) (a1 : Int) (a2 : Int) (Z : dz_Z) (H : dz_p (jf_F_shareOfLeft c0 a1 a2 Z) (fun q => Q (some (dz_I q)) (hz_0 Z))) : mm_Wp X D mm_r15 0 [some (.ref c0), some (dz_I a1), some (dz_I a2), none] [] (hz_0 Z) Q := by
  unfold jf_F_shareOfLeft at H
  refine wp_s (i := .iload_n 1) (n := 1) (pc' := 1) (st' := [dz_I a1]) rfl rfl ?_
  refine wq_if (p := dz_c a1 ≠ 0) (tt := 6) (pc' := 4) rfl rfl (cz_ne rfl) rfl (fun c1 => ?_) (fun c1 => ?_)
  · replace H := dz_it c1 H
    refine wp_s (i := .iload_n 1) (n := 1) (pc' := 7) (st' := [dz_I a1]) rfl rfl ?_
    refine wp_s (i := .iconst 1) (n := 1) (pc' := 8) (st' := [dz_I 1, dz_I a1]) rfl rfl ?_
    refine wq_ic (p := dz_c a1 ≠ 1) (tt := 13) (pc' := 11) rfl rfl (cq_ne rfl dk_1) rfl (fun c2 => ?_) (fun c2 => ?_)
    · replace H := dz_it c2 H
      refine wp_s (i := .aload_n 0) (n := 1) (pc' := 14) (st' := [.ref c0]) rfl rfl ?_
      refine wq_gi (idx := 43) (pc' := 17) rfl rfl (ho_F hc0) rfl rfl ?_
      refine wp_s (i := .iconst 2) (n := 1) (pc' := 18) (st' := [dz_I 2, dz_I (Z c0 5 0)]) rfl rfl ?_
      refine wq_2 (i := .irem) (z := Int.tmod (dz_c (Z c0 5 0)) 2) (pc' := 19) rfl rfl (op_rem rfl dk_2 (by decide)) rfl ?_
      refine dz_jn (P := fun (q4 : Int) => mm_Wp X D mm_r15 27 [some (.ref c0), some (dz_I a1), some (dz_I a2), none] [dz_I q4] (hz_0 Z) Q) (dz_bi H) (fun q4 H => ?_) (fun H => ?_)
      · skip
        refine wq_st (k := 3) (i := .istore_n 3) (n := 1) (ls' := [some (.ref c0), some (dz_I a1), some (dz_I a2), some (dz_I q4)]) (pc' := 28) rfl rfl rfl rfl rfl ?_
        refine wp_s (i := .iload_n 3) (n := 1) (pc' := 29) (st' := [dz_I q4]) rfl rfl ?_
        refine wq_if (p := dz_c q4 = 0) (tt := 40) (pc' := 32) rfl rfl (cz_eq rfl) rfl (fun c5 => ?_) (fun c5 => ?_)
        · replace H := dz_it c5 H
          refine wp_s (i := .iload_n 2) (n := 1) (pc' := 41) (st' := [dz_I a2]) rfl rfl ?_
          refine wp_s (i := .iconst 2) (n := 1) (pc' := 42) (st' := [dz_I 2, dz_I a2]) rfl rfl ?_
          refine wq_2 (i := .idiv) (z := Int.tdiv (dz_c a2) 2) (pc' := 43) rfl rfl (op_div rfl dk_2 (by decide)) rfl ?_
          refine wq_ri rfl rfl ?_
          replace H := dz_sm H
          exact H
        · replace H := dz_if c5 H
          refine wp_s (i := .iload_n 2) (n := 1) (pc' := 33) (st' := [dz_I a2]) rfl rfl ?_
          refine wp_s (i := .iload_n 2) (n := 1) (pc' := 34) (st' := [dz_I a2, dz_I a2]) rfl rfl ?_
          refine wp_s (i := .iconst 2) (n := 1) (pc' := 35) (st' := [dz_I 2, dz_I a2, dz_I a2]) rfl rfl ?_
          refine wq_2 (i := .idiv) (z := Int.tdiv (dz_c a2) 2) (pc' := 36) rfl rfl (op_div rfl dk_2 (by decide)) rfl ?_
          refine wq_2 (i := .isub) (z := a2 - (Int.tdiv (dz_c a2) 2)) (pc' := 37) rfl rfl (op_sub _ _) rfl ?_
          refine wp_s (i := .goto 6) (n := 3) (pc' := 43) (st' := [dz_I (a2 - (Int.tdiv (dz_c a2) 2))]) rfl rfl ?_
          refine wq_ri rfl rfl ?_
          replace H := dz_sm H
          exact H
      · skip
        refine wq_if (p := dz_c (Int.tmod (dz_c (Z c0 5 0)) 2) ≠ 0) (tt := 26) (pc' := 22) rfl rfl (cz_ne rfl) rfl (fun c6 => ?_) (fun c6 => ?_)
        · replace H := dz_it c6 H
          refine wp_s (i := .iconst 0) (n := 1) (pc' := 27) (st' := [dz_I 0]) rfl rfl ?_
          replace H := dz_sm H
          exact H
        · replace H := dz_if c6 H
          refine wp_s (i := .iconst 1) (n := 1) (pc' := 23) (st' := [dz_I 1]) rfl rfl ?_
          refine wp_s (i := .goto 4) (n := 3) (pc' := 27) (st' := [dz_I 1]) rfl rfl ?_
          replace H := dz_sm H
          exact H
    · replace H := dz_if c2 H
      refine wp_s (i := .iconst 0) (n := 1) (pc' := 12) (st' := [dz_I 0]) rfl rfl ?_
      refine wq_ri rfl rfl ?_
      replace H := dz_sm H
      exact H
  · replace H := dz_if c1 H
    refine wp_s (i := .iload_n 2) (n := 1) (pc' := 5) (st' := [dz_I a2]) rfl rfl ?_
    refine wq_ri rfl rfl ?_
    replace H := dz_sm H
    exact H
-- 14
def jf_F_runThroughGutters (c0 : Nat) (a1 : Nat) (a2 : Nat) (Z : dz_Z) : Option (dz_Z) := dz_lp (fun (s1 : Int × dz_Z) => if dz_c (s1.2 a1 3 0) ≤ dz_c s1.1 then (some (Sum.inr s1.2)) else (if 0 ≤ dz_c s1.1 ∧ dz_c s1.1 < 5 then if dz_c (s1.2 a2 1 (dz_c s1.1)) = 0 then (Option.bind (jf_F_shareOfLeft c0 (s1.2 a2 0 (dz_c s1.1)) (s1.2 c0 10 (dz_c s1.1)) s1.2) fun q7 => Option.bind (jf_F_lead c0 (s1.2 a1 4 (dz_c s1.1)) q7 s1.2) fun q8 => Option.bind (jf_F_lead c0 (q8 a1 5 (dz_c s1.1)) ((s1.2 c0 10 (dz_c s1.1)) - q7) q8) fun q9 => some (Sum.inl (s1.1 + 1, q9))) else (dz_a (dz_u s1.2 c0 7 0 ((s1.2 c0 7 0) + (s1.2 c0 10 (dz_c s1.1)))) fun Z10 => some (Sum.inl (s1.1 + 1, Z10))) else none)) 5000 (0, Z)
set_option maxRecDepth 20000 in
theorem jw_F_runThroughGutters {X : Option (List Int32)} {D : Nat} {Q : Option Value → mm_H → Prop} (c0 : Nat) (hc0 : hz_isF c0) (a1 : Nat) (ha1 : hz_isP a1) (a2 : Nat) (ha2 : hz_isS a2) (Z : dz_Z) (H : dz_p (jf_F_runThroughGutters c0 a1 a2 Z) (fun q => Q (none) (hz_0 q))) : mm_Wp X (D + 1) mm_r14 0 [some (.ref c0), some (.ref a1), some (.ref a2), none, none, none] [] (hz_0 Z) Q := by
  unfold jf_F_runThroughGutters at H
  refine wp_s (i := .iconst 0) (n := 1) (pc' := 1) (st' := [dz_I 0]) rfl rfl ?_
  refine wq_st (k := 3) (i := .istore_n 3) (n := 1) (ls' := [some (.ref c0), some (.ref a1), some (.ref a2), some (dz_I 0), none, none]) (pc' := 2) rfl rfl rfl rfl rfl ?_
  refine dz_lpi (P := fun (s1 : Int × dz_Z) => ∀ (u2 u3 : Option Int32), mm_Wp X (D + 1) mm_r14 2 [some (.ref c0), some (.ref a1), some (.ref a2), some (dz_I s1.1), Option.map Value.int u2, Option.map Value.int u3] [] (hz_0 s1.2) Q) (fun s1 H => ?_) 5000 (0, Z) H none none
  intro u2 u3
  refine wp_s (i := .iload_n 3) (n := 1) (pc' := 3) (st' := [dz_I s1.1]) rfl rfl ?_
  refine wp_s (i := .aload_n 1) (n := 1) (pc' := 4) (st' := [.ref a1, dz_I s1.1]) rfl rfl ?_
  refine wq_gi (idx := 92) (pc' := 7) rfl rfl (ho_P ha1) rfl rfl ?_
  refine wq_ic (p := dz_c (s1.2 a1 3 0) ≤ dz_c s1.1) (tt := 88) (pc' := 10) rfl rfl (cq_ge rfl rfl) rfl (fun c4 => ?_) (fun c4 => ?_)
  · replace H := dz_it c4 H
    refine wq_rv rfl rfl ?_
    replace H := dz_out H
    replace H := dz_sm H
    exact H
  · replace H := dz_if c4 H
    refine wp_s (i := .aload_n 0) (n := 1) (pc' := 11) (st' := [.ref c0]) rfl rfl ?_
    refine wq_gr (idx := 28) (a := c0 + 6) (pc' := 14) rfl rfl (ho_F hc0) rfl rfl ?_
    refine wp_s (i := .iload_n 3) (n := 1) (pc' := 15) (st' := [dz_I s1.1, .ref (c0 + 6)]) rfl rfl ?_
    obtain ⟨k5, H⟩ := dz_ck H
    refine wq_ia (j' := dz_c s1.1) (pc' := 16) rfl (ha_F_10 hc0) rfl k5.1 k5.2 rfl ?_
    refine wq_st (k := 4) (i := .istore 4) (n := 2) (ls' := [some (.ref c0), some (.ref a1), some (.ref a2), some (dz_I s1.1), some (dz_I (s1.2 c0 10 (dz_c s1.1))), Option.map Value.int u3]) (pc' := 18) rfl rfl rfl rfl rfl ?_
    refine wp_s (i := .aload_n 2) (n := 1) (pc' := 19) (st' := [.ref a2]) rfl rfl ?_
    refine wq_gr (idx := 95) (a := a2 + 2) (pc' := 22) rfl rfl (ho_S ha2) rfl rfl ?_
    refine wp_s (i := .iload_n 3) (n := 1) (pc' := 23) (st' := [dz_I s1.1, .ref (a2 + 2)]) rfl rfl ?_
    refine wq_ia (j' := dz_c s1.1) (pc' := 24) rfl (ha_S_1 ha2) rfl k5.1 k5.2 rfl ?_
    refine wq_if (p := dz_c (s1.2 a2 1 (dz_c s1.1)) = 0) (tt := 41) (pc' := 27) rfl rfl (cz_eq rfl) rfl (fun c6 => ?_) (fun c6 => ?_)
    · replace H := dz_it c6 H
      refine wp_s (i := .aload_n 0) (n := 1) (pc' := 42) (st' := [.ref c0]) rfl rfl ?_
      refine wp_s (i := .aload_n 2) (n := 1) (pc' := 43) (st' := [.ref a2, .ref c0]) rfl rfl ?_
      refine wq_gr (idx := 100) (a := a2 + 1) (pc' := 46) rfl rfl (ho_S ha2) rfl rfl ?_
      refine wp_s (i := .iload_n 3) (n := 1) (pc' := 47) (st' := [dz_I s1.1, .ref (a2 + 1), .ref c0]) rfl rfl ?_
      refine wq_ia (j' := dz_c s1.1) (pc' := 48) rfl (ha_S_0 ha2) rfl k5.1 k5.2 rfl ?_
      refine wp_s (i := .iload 4) (n := 2) (pc' := 50) (st' := [dz_I (s1.2 c0 10 (dz_c s1.1)), dz_I (s1.2 a2 0 (dz_c s1.1)), .ref c0]) rfl rfl ?_
      refine wq_cv (Dq := D) (r' := mm_r15) (as0 := [dz_I (s1.2 a2 0 (dz_c s1.1)), dz_I (s1.2 c0 10 (dz_c s1.1))]) (rest := []) (ls' := [some (.ref c0), some (dz_I (s1.2 a2 0 (dz_c s1.1))), some (dz_I (s1.2 c0 10 (dz_c s1.1))), none]) (pc' := 53) rfl rfl rfl rfl (ho_F hc0) rfl rfl rfl ?_
      refine jw_F_shareOfLeft (X := X) (D := D + 0) c0 hc0 (s1.2 a2 0 (dz_c s1.1)) (s1.2 c0 10 (dz_c s1.1)) s1.2 (dz_pm (dz_bi H) (fun q7 H => ?_))
      show mm_Wp X (D + 1) mm_r14 53 [some (.ref c0), some (.ref a1), some (.ref a2), some (dz_I s1.1), some (dz_I (s1.2 c0 10 (dz_c s1.1))), Option.map Value.int u3] [dz_I q7] (hz_0 s1.2) Q
      refine wq_st (k := 5) (i := .istore 5) (n := 2) (ls' := [some (.ref c0), some (.ref a1), some (.ref a2), some (dz_I s1.1), some (dz_I (s1.2 c0 10 (dz_c s1.1))), some (dz_I q7)]) (pc' := 55) rfl rfl rfl rfl rfl ?_
      refine wp_s (i := .aload_n 0) (n := 1) (pc' := 56) (st' := [.ref c0]) rfl rfl ?_
      refine wp_s (i := .aload_n 1) (n := 1) (pc' := 57) (st' := [.ref a1, .ref c0]) rfl rfl ?_
      refine wq_gr (idx := 107) (a := a1 + 3) (pc' := 60) rfl rfl (ho_P ha1) rfl rfl ?_
      refine wp_s (i := .iload_n 3) (n := 1) (pc' := 61) (st' := [dz_I s1.1, .ref (a1 + 3), .ref c0]) rfl rfl ?_
      refine wq_ia (j' := dz_c s1.1) (pc' := 62) rfl (ha_P_4 ha1) rfl k5.1 k5.2 rfl ?_
      refine wp_s (i := .iload 5) (n := 2) (pc' := 64) (st' := [dz_I q7, dz_I (s1.2 a1 4 (dz_c s1.1)), .ref c0]) rfl rfl ?_
      refine wq_cv (Dq := D) (r' := mm_r16) (as0 := [dz_I (s1.2 a1 4 (dz_c s1.1)), dz_I q7]) (rest := []) (ls' := [some (.ref c0), some (dz_I (s1.2 a1 4 (dz_c s1.1))), some (dz_I q7)]) (pc' := 67) rfl rfl rfl rfl (ho_F hc0) rfl rfl rfl ?_
      refine jw_F_lead (X := X) (D := D + 0) c0 hc0 (s1.2 a1 4 (dz_c s1.1)) q7 s1.2 (dz_pm (dz_bi H) (fun q8 H => ?_))
      show mm_Wp X (D + 1) mm_r14 67 [some (.ref c0), some (.ref a1), some (.ref a2), some (dz_I s1.1), some (dz_I (s1.2 c0 10 (dz_c s1.1))), some (dz_I q7)] [] (hz_0 q8) Q
      refine wp_s (i := .aload_n 0) (n := 1) (pc' := 68) (st' := [.ref c0]) rfl rfl ?_
      refine wp_s (i := .aload_n 1) (n := 1) (pc' := 69) (st' := [.ref a1, .ref c0]) rfl rfl ?_
      refine wq_gr (idx := 110) (a := a1 + 4) (pc' := 72) rfl rfl (ho_P ha1) rfl rfl ?_
      refine wp_s (i := .iload_n 3) (n := 1) (pc' := 73) (st' := [dz_I s1.1, .ref (a1 + 4), .ref c0]) rfl rfl ?_
      refine wq_ia (j' := dz_c s1.1) (pc' := 74) rfl (ha_P_5 ha1) rfl k5.1 k5.2 rfl ?_
      refine wp_s (i := .iload 4) (n := 2) (pc' := 76) (st' := [dz_I (s1.2 c0 10 (dz_c s1.1)), dz_I (q8 a1 5 (dz_c s1.1)), .ref c0]) rfl rfl ?_
      refine wp_s (i := .iload 5) (n := 2) (pc' := 78) (st' := [dz_I q7, dz_I (s1.2 c0 10 (dz_c s1.1)), dz_I (q8 a1 5 (dz_c s1.1)), .ref c0]) rfl rfl ?_
      refine wq_2 (i := .isub) (z := (s1.2 c0 10 (dz_c s1.1)) - q7) (pc' := 79) rfl rfl (op_sub _ _) rfl ?_
      refine wq_cv (Dq := D) (r' := mm_r16) (as0 := [dz_I (q8 a1 5 (dz_c s1.1)), dz_I ((s1.2 c0 10 (dz_c s1.1)) - q7)]) (rest := []) (ls' := [some (.ref c0), some (dz_I (q8 a1 5 (dz_c s1.1))), some (dz_I ((s1.2 c0 10 (dz_c s1.1)) - q7))]) (pc' := 82) rfl rfl rfl rfl (ho_F hc0) rfl rfl rfl ?_
      refine jw_F_lead (X := X) (D := D + 0) c0 hc0 (q8 a1 5 (dz_c s1.1)) ((s1.2 c0 10 (dz_c s1.1)) - q7) q8 (dz_pm (dz_bi H) (fun q9 H => ?_))
      show mm_Wp X (D + 1) mm_r14 82 [some (.ref c0), some (.ref a1), some (.ref a2), some (dz_I s1.1), some (dz_I (s1.2 c0 10 (dz_c s1.1))), some (dz_I q7)] [] (hz_0 q9) Q
      refine wq_inc (k := 3) (d := 1) (x := s1.1) (ls' := [some (.ref c0), some (.ref a1), some (.ref a2), some (dz_I (s1.1 + 1)), some (dz_I (s1.2 c0 10 (dz_c s1.1))), some (dz_I q7)]) (pc' := 85) rfl rfl rfl rfl ?_
      refine wp_s (i := .goto (-83)) (n := 3) (pc' := 2) (st' := []) rfl rfl ?_
      replace H := dz_back H
      exact H (some (Int32.ofInt (s1.2 c0 10 (dz_c s1.1)))) (some (Int32.ofInt q7))
    · replace H := dz_if c6 H
      refine wp_s (i := .aload_n 0) (n := 1) (pc' := 28) (st' := [.ref c0]) rfl rfl ?_
      refine wp_s (i := .dup) (n := 1) (pc' := 29) (st' := [.ref c0, .ref c0]) rfl rfl ?_
      refine wq_gi (idx := 50) (pc' := 32) rfl rfl (ho_F hc0) rfl rfl ?_
      refine wp_s (i := .iload 4) (n := 2) (pc' := 34) (st' := [dz_I (s1.2 c0 10 (dz_c s1.1)), dz_I (s1.2 c0 7 0), .ref c0]) rfl rfl ?_
      refine wq_2 (i := .iadd) (z := (s1.2 c0 7 0) + (s1.2 c0 10 (dz_c s1.1))) (pc' := 35) rfl rfl (op_add _ _) rfl ?_
      refine wq_pi (idx := 50) (x := (s1.2 c0 7 0) + (s1.2 c0 10 (dz_c s1.1))) (pc' := 38) rfl rfl rfl (ho_F hc0) rfl rfl rfl rfl (fun Z10 eZ10 => ?_)
      replace H := dz_le H Z10 eZ10
      clear eZ10
      refine wp_s (i := .goto 44) (n := 3) (pc' := 82) (st' := []) rfl rfl ?_
      refine wq_inc (k := 3) (d := 1) (x := s1.1) (ls' := [some (.ref c0), some (.ref a1), some (.ref a2), some (dz_I (s1.1 + 1)), some (dz_I (s1.2 c0 10 (dz_c s1.1))), Option.map Value.int u3]) (pc' := 85) rfl rfl rfl rfl ?_
      refine wp_s (i := .goto (-83)) (n := 3) (pc' := 2) (st' := []) rfl rfl ?_
      replace H := dz_back H
      exact H (some (Int32.ofInt (s1.2 c0 10 (dz_c s1.1)))) u3
-- 23
def jf_F_isBroken (c0 : Nat) (a1 : Nat) (a2 : Int) (Z : dz_Z) : Option (Bool) := if dz_c (Z a1 15 0) ≤ 0 then (some false) else (if 0 ≤ dz_c a2 ∧ dz_c a2 < 8 then if dz_l (Z c0 2 (dz_c a2)) < dz_c (Z a1 15 0) then (some false) else (some true) else none)
set_option maxRecDepth 20000 in
theorem jw_F_isBroken {X : Option (List Int32)} {D : Nat} {Q : Option Value → mm_H → Prop} (c0 : Nat) (hc0 : hz_isF c0) (a1 : Nat) (ha1 : hz_isP a1) (a2 : Int) (Z : dz_Z) (H : dz_p (jf_F_isBroken c0 a1 a2 Z) (fun q => Q (some (dz_B q)) (hz_0 Z))) : mm_Wp X D mm_r23 0 [some (.ref c0), some (.ref a1), some (dz_I a2)] [] (hz_0 Z) Q := by
  unfold jf_F_isBroken at H
  refine wp_s (i := .aload_n 1) (n := 1) (pc' := 1) (st' := [.ref a1]) rfl rfl ?_
  refine wq_gi (idx := 147) (pc' := 4) rfl rfl (ho_P ha1) rfl rfl ?_
  refine wq_if (p := dz_c (Z a1 15 0) ≤ 0) (tt := 26) (pc' := 7) rfl rfl (cz_le rfl) rfl (fun c1 => ?_) (fun c1 => ?_)
  · replace H := dz_it c1 H
    refine wp_s (i := .iconst 0) (n := 1) (pc' := 27) (st' := [dz_I 0]) rfl rfl ?_
    refine wq_rf rfl rfl ?_
    replace H := dz_sm H
    exact H
  · replace H := dz_if c1 H
    refine wp_s (i := .aload_n 0) (n := 1) (pc' := 8) (st' := [.ref c0]) rfl rfl ?_
    refine wq_gr (idx := 18) (a := c0 + 3) (pc' := 11) rfl rfl (ho_F hc0) rfl rfl ?_
    refine wp_s (i := .iload_n 2) (n := 1) (pc' := 12) (st' := [dz_I a2, .ref (c0 + 3)]) rfl rfl ?_
    obtain ⟨k2, H⟩ := dz_ck H
    refine wq_la (j' := dz_c a2) (pc' := 13) rfl (ha_F_2 hc0) rfl k2.1 k2.2 rfl ?_
    refine wp_s (i := .aload_n 1) (n := 1) (pc' := 14) (st' := [.ref a1, dz_J (Z c0 2 (dz_c a2))]) rfl rfl ?_
    refine wq_gi (idx := 147) (pc' := 17) rfl rfl (ho_P ha1) rfl rfl ?_
    refine wq_3 (i := .i2l) (v' := dz_J (dz_c (Z a1 15 0))) (pc' := 18) rfl rfl (oq_i2l' rfl) rfl ?_
    refine wp_s (i := .lcmp) (n := 1) (pc' := 19) (st' := [.int (lg_cmp (Int64.ofInt (Z c0 2 (dz_c a2))) (Int64.ofInt (dz_c (Z a1 15 0))))]) rfl rfl ?_
    refine wq_if (p := dz_l (Z c0 2 (dz_c a2)) < dz_c (Z a1 15 0)) (tt := 26) (pc' := 22) rfl rfl (cl_lt rfl (dz_lc _)) rfl (fun c3 => ?_) (fun c3 => ?_)
    · replace H := dz_it c3 H
      refine wp_s (i := .iconst 0) (n := 1) (pc' := 27) (st' := [dz_I 0]) rfl rfl ?_
      refine wq_rf rfl rfl ?_
      replace H := dz_sm H
      exact H
    · replace H := dz_if c3 H
      refine wp_s (i := .iconst 1) (n := 1) (pc' := 23) (st' := [dz_I 1]) rfl rfl ?_
      refine wp_s (i := .goto 4) (n := 3) (pc' := 27) (st' := [dz_I 1]) rfl rfl ?_
      refine wq_rt rfl rfl ?_
      replace H := dz_sm H
      exact H
-- 19
def jf_F_tip (c0 : Nat) (a1 : Int) (a2 : Int) (a3 : Int) (a4 : Int) (Z : dz_Z) : Option (Int × dz_Z) := if 0 ≤ dz_c a1 ∧ dz_c a1 < 8 then dz_a (dz_u Z c0 0 (dz_c a1) ((Z c0 0 (dz_c a1)) + a3)) fun Z2 => Option.bind (α := Int) (if dz_c a2 ≤ 0 then (some 0) else (if dz_c a2 ≠ 0 then some (Int.tdiv (dz_c (Z2 c0 0 (dz_c a1))) (dz_c a2)) else none)) (fun (q5 : Int) => dz_a (dz_u Z2 c0 0 (dz_c a1) ((Z2 c0 0 (dz_c a1)) - (q5 * a2))) fun Z6 => if dz_c a4 < 0 then (dz_a (dz_u Z6 c0 7 0 ((Z6 c0 7 0) + (q5 * a2))) fun Z8 => some (q5, Z8)) else (if 8 ≤ dz_c a4 then (dz_a (dz_u Z6 c0 7 0 ((Z6 c0 7 0) + (q5 * a2))) fun Z10 => some (q5, Z10)) else (if 0 ≤ dz_c a4 ∧ dz_c a4 < 8 then dz_a (dz_u Z6 c0 3 (dz_c a4) ((Z6 c0 3 (dz_c a4)) + (q5 * a2))) fun Z12 => some (q5, Z12) else none))) else none
set_option maxRecDepth 20000 in
theorem jw_F_tip {X : Option (List Int32)} {D : Nat} {Q : Option Value → mm_H → Prop} (c0 : Nat) (hc0 : hz_isF c0) (a1 : Int) (a2 : Int) (a3 : Int) (a4 : Int) (Z : dz_Z) (H : dz_p (jf_F_tip c0 a1 a2 a3 a4 Z) (fun q => Q (some (dz_I q.1)) (hz_0 q.2))) : mm_Wp X D mm_r19 0 [some (.ref c0), some (dz_I a1), some (dz_I a2), some (dz_I a3), some (dz_I a4), none, none] [] (hz_0 Z) Q := by
  unfold jf_F_tip at H
  refine wp_s (i := .aload_n 0) (n := 1) (pc' := 1) (st' := [.ref c0]) rfl rfl ?_
  refine wq_gr (idx := 9) (a := c0 + 1) (pc' := 4) rfl rfl (ho_F hc0) rfl rfl ?_
  refine wp_s (i := .iload_n 1) (n := 1) (pc' := 5) (st' := [dz_I a1, .ref (c0 + 1)]) rfl rfl ?_
  refine wp_s (i := .dup2) (n := 1) (pc' := 6) (st' := [dz_I a1, .ref (c0 + 1), dz_I a1, .ref (c0 + 1)]) rfl rfl ?_
  obtain ⟨k1, H⟩ := dz_ck H
  refine wq_ia (j' := dz_c a1) (pc' := 7) rfl (ha_F_0 hc0) rfl k1.1 k1.2 rfl ?_
  refine wp_s (i := .iload_n 3) (n := 1) (pc' := 8) (st' := [dz_I a3, dz_I (Z c0 0 (dz_c a1)), dz_I a1, .ref (c0 + 1)]) rfl rfl ?_
  refine wq_2 (i := .iadd) (z := (Z c0 0 (dz_c a1)) + a3) (pc' := 9) rfl rfl (op_add _ _) rfl ?_
  refine wq_is (j' := dz_c a1) (x := (Z c0 0 (dz_c a1)) + a3) (pc' := 10) rfl (ha_F_0 hc0) rfl k1.1 k1.2 rfl (fun Z2 eZ2 => ?_)
  replace H := dz_le H Z2 eZ2
  clear eZ2
  refine wp_s (i := .iload_n 2) (n := 1) (pc' := 11) (st' := [dz_I a2]) rfl rfl ?_
  refine dz_jn (P := fun (q5 : Int) => mm_Wp X D mm_r19 26 [some (.ref c0), some (dz_I a1), some (dz_I a2), some (dz_I a3), some (dz_I a4), none, none] [dz_I q5] (hz_0 Z2) Q) (dz_bi H) (fun q5 H => ?_) (fun H => ?_)
  · skip
    refine wq_st (k := 5) (i := .istore 5) (n := 2) (ls' := [some (.ref c0), some (dz_I a1), some (dz_I a2), some (dz_I a3), some (dz_I a4), some (dz_I q5), none]) (pc' := 28) rfl rfl rfl rfl rfl ?_
    refine wp_s (i := .iload 5) (n := 2) (pc' := 30) (st' := [dz_I q5]) rfl rfl ?_
    refine wp_s (i := .iload_n 2) (n := 1) (pc' := 31) (st' := [dz_I a2, dz_I q5]) rfl rfl ?_
    refine wq_2 (i := .imul) (z := q5 * a2) (pc' := 32) rfl rfl (op_mul _ _) rfl ?_
    refine wq_st (k := 6) (i := .istore 6) (n := 2) (ls' := [some (.ref c0), some (dz_I a1), some (dz_I a2), some (dz_I a3), some (dz_I a4), some (dz_I q5), some (dz_I (q5 * a2))]) (pc' := 34) rfl rfl rfl rfl rfl ?_
    refine wp_s (i := .aload_n 0) (n := 1) (pc' := 35) (st' := [.ref c0]) rfl rfl ?_
    refine wq_gr (idx := 9) (a := c0 + 1) (pc' := 38) rfl rfl (ho_F hc0) rfl rfl ?_
    refine wp_s (i := .iload_n 1) (n := 1) (pc' := 39) (st' := [dz_I a1, .ref (c0 + 1)]) rfl rfl ?_
    refine wp_s (i := .dup2) (n := 1) (pc' := 40) (st' := [dz_I a1, .ref (c0 + 1), dz_I a1, .ref (c0 + 1)]) rfl rfl ?_
    refine wq_ia (j' := dz_c a1) (pc' := 41) rfl (ha_F_0 hc0) rfl k1.1 k1.2 rfl ?_
    refine wp_s (i := .iload 6) (n := 2) (pc' := 43) (st' := [dz_I (q5 * a2), dz_I (Z2 c0 0 (dz_c a1)), dz_I a1, .ref (c0 + 1)]) rfl rfl ?_
    refine wq_2 (i := .isub) (z := (Z2 c0 0 (dz_c a1)) - (q5 * a2)) (pc' := 44) rfl rfl (op_sub _ _) rfl ?_
    refine wq_is (j' := dz_c a1) (x := (Z2 c0 0 (dz_c a1)) - (q5 * a2)) (pc' := 45) rfl (ha_F_0 hc0) rfl k1.1 k1.2 rfl (fun Z6 eZ6 => ?_)
    replace H := dz_le H Z6 eZ6
    clear eZ6
    refine wp_s (i := .iload 4) (n := 2) (pc' := 47) (st' := [dz_I a4]) rfl rfl ?_
    refine wq_if (p := dz_c a4 < 0) (tt := 72) (pc' := 50) rfl rfl (cz_lt rfl) rfl (fun c7 => ?_) (fun c7 => ?_)
    · replace H := dz_it c7 H
      refine wp_s (i := .aload_n 0) (n := 1) (pc' := 73) (st' := [.ref c0]) rfl rfl ?_
      refine wp_s (i := .dup) (n := 1) (pc' := 74) (st' := [.ref c0, .ref c0]) rfl rfl ?_
      refine wq_gi (idx := 50) (pc' := 77) rfl rfl (ho_F hc0) rfl rfl ?_
      refine wp_s (i := .iload 6) (n := 2) (pc' := 79) (st' := [dz_I (q5 * a2), dz_I (Z6 c0 7 0), .ref c0]) rfl rfl ?_
      refine wq_2 (i := .iadd) (z := (Z6 c0 7 0) + (q5 * a2)) (pc' := 80) rfl rfl (op_add _ _) rfl ?_
      refine wq_pi (idx := 50) (x := (Z6 c0 7 0) + (q5 * a2)) (pc' := 83) rfl rfl rfl (ho_F hc0) rfl rfl rfl rfl (fun Z8 eZ8 => ?_)
      replace H := dz_le H Z8 eZ8
      clear eZ8
      refine wp_s (i := .iload 5) (n := 2) (pc' := 85) (st' := [dz_I q5]) rfl rfl ?_
      refine wq_ri rfl rfl ?_
      replace H := dz_sm H
      exact H
    · replace H := dz_if c7 H
      refine wp_s (i := .iload 4) (n := 2) (pc' := 52) (st' := [dz_I a4]) rfl rfl ?_
      refine wp_s (i := .bipush 8) (n := 2) (pc' := 54) (st' := [dz_I 8, dz_I a4]) rfl rfl ?_
      refine wq_ic (p := 8 ≤ dz_c a4) (tt := 72) (pc' := 57) rfl rfl (cq_ge rfl dk_8) rfl (fun c9 => ?_) (fun c9 => ?_)
      · replace H := dz_it c9 H
        refine wp_s (i := .aload_n 0) (n := 1) (pc' := 73) (st' := [.ref c0]) rfl rfl ?_
        refine wp_s (i := .dup) (n := 1) (pc' := 74) (st' := [.ref c0, .ref c0]) rfl rfl ?_
        refine wq_gi (idx := 50) (pc' := 77) rfl rfl (ho_F hc0) rfl rfl ?_
        refine wp_s (i := .iload 6) (n := 2) (pc' := 79) (st' := [dz_I (q5 * a2), dz_I (Z6 c0 7 0), .ref c0]) rfl rfl ?_
        refine wq_2 (i := .iadd) (z := (Z6 c0 7 0) + (q5 * a2)) (pc' := 80) rfl rfl (op_add _ _) rfl ?_
        refine wq_pi (idx := 50) (x := (Z6 c0 7 0) + (q5 * a2)) (pc' := 83) rfl rfl rfl (ho_F hc0) rfl rfl rfl rfl (fun Z10 eZ10 => ?_)
        replace H := dz_le H Z10 eZ10
        clear eZ10
        refine wp_s (i := .iload 5) (n := 2) (pc' := 85) (st' := [dz_I q5]) rfl rfl ?_
        refine wq_ri rfl rfl ?_
        replace H := dz_sm H
        exact H
      · replace H := dz_if c9 H
        refine wp_s (i := .aload_n 0) (n := 1) (pc' := 58) (st' := [.ref c0]) rfl rfl ?_
        refine wq_gr (idx := 22) (a := c0 + 4) (pc' := 61) rfl rfl (ho_F hc0) rfl rfl ?_
        refine wp_s (i := .iload 4) (n := 2) (pc' := 63) (st' := [dz_I a4, .ref (c0 + 4)]) rfl rfl ?_
        refine wp_s (i := .dup2) (n := 1) (pc' := 64) (st' := [dz_I a4, .ref (c0 + 4), dz_I a4, .ref (c0 + 4)]) rfl rfl ?_
        obtain ⟨k11, H⟩ := dz_ck H
        refine wq_ia (j' := dz_c a4) (pc' := 65) rfl (ha_F_3 hc0) rfl k11.1 k11.2 rfl ?_
        refine wp_s (i := .iload 6) (n := 2) (pc' := 67) (st' := [dz_I (q5 * a2), dz_I (Z6 c0 3 (dz_c a4)), dz_I a4, .ref (c0 + 4)]) rfl rfl ?_
        refine wq_2 (i := .iadd) (z := (Z6 c0 3 (dz_c a4)) + (q5 * a2)) (pc' := 68) rfl rfl (op_add _ _) rfl ?_
        refine wq_is (j' := dz_c a4) (x := (Z6 c0 3 (dz_c a4)) + (q5 * a2)) (pc' := 69) rfl (ha_F_3 hc0) rfl k11.1 k11.2 rfl (fun Z12 eZ12 => ?_)
        replace H := dz_le H Z12 eZ12
        clear eZ12
        refine wp_s (i := .goto 14) (n := 3) (pc' := 83) (st' := []) rfl rfl ?_
        refine wp_s (i := .iload 5) (n := 2) (pc' := 85) (st' := [dz_I q5]) rfl rfl ?_
        refine wq_ri rfl rfl ?_
        replace H := dz_sm H
        exact H
  · skip
    refine wq_if (p := dz_c a2 ≤ 0) (tt := 25) (pc' := 14) rfl rfl (cz_le rfl) rfl (fun c13 => ?_) (fun c13 => ?_)
    · replace H := dz_it c13 H
      refine wp_s (i := .iconst 0) (n := 1) (pc' := 26) (st' := [dz_I 0]) rfl rfl ?_
      replace H := dz_sm H
      exact H
    · replace H := dz_if c13 H
      refine wp_s (i := .aload_n 0) (n := 1) (pc' := 15) (st' := [.ref c0]) rfl rfl ?_
      refine wq_gr (idx := 9) (a := c0 + 1) (pc' := 18) rfl rfl (ho_F hc0) rfl rfl ?_
      refine wp_s (i := .iload_n 1) (n := 1) (pc' := 19) (st' := [dz_I a1, .ref (c0 + 1)]) rfl rfl ?_
      refine wq_ia (j' := dz_c a1) (pc' := 20) rfl (ha_F_0 hc0) rfl k1.1 k1.2 rfl ?_
      refine wp_s (i := .iload_n 2) (n := 1) (pc' := 21) (st' := [dz_I a2, dz_I (Z2 c0 0 (dz_c a1))]) rfl rfl ?_
      obtain ⟨k14, H⟩ := dz_ck H
      refine wq_2 (i := .idiv) (z := Int.tdiv (dz_c (Z2 c0 0 (dz_c a1))) (dz_c a2)) (pc' := 22) rfl rfl (op_div rfl rfl k14) rfl ?_
      refine wp_s (i := .goto 4) (n := 3) (pc' := 26) (st' := [dz_I (Int.tdiv (dz_c (Z2 c0 0 (dz_c a1))) (dz_c a2))]) rfl rfl ?_
      replace H := dz_sm H
      exact H
-- 20
def jf_F_leak (c0 : Nat) (a1 : Int) (a2 : Int) (a3 : Int) (Z : dz_Z) : Option (Int × dz_Z) := if 0 ≤ dz_c a1 ∧ dz_c a1 < 8 then dz_a (dz_u Z c0 0 (dz_c a1) ((Z c0 0 (dz_c a1)) + a3)) fun Z2 => if dz_c (Z2 c0 0 (dz_c a1)) < dz_c a2 then (if dz_c (Z2 c0 0 (dz_c a1)) ≤ 0 then (some (0, Z2)) else (dz_a (dz_u Z2 c0 7 0 ((Z2 c0 7 0) + 1)) fun Z5 => dz_a (dz_u Z5 c0 0 (dz_c a1) ((Z5 c0 0 (dz_c a1)) - 1)) fun Z6 => some (0, Z6))) else (dz_a (dz_u Z2 c0 7 0 ((Z2 c0 7 0) + (Z2 c0 0 (dz_c a1)))) fun Z7 => dz_a (dz_u Z7 c0 0 (dz_c a1) 0) fun Z8 => some (1, Z8)) else none
set_option maxRecDepth 20000 in
theorem jw_F_leak {X : Option (List Int32)} {D : Nat} {Q : Option Value → mm_H → Prop} (c0 : Nat) (hc0 : hz_isF c0) (a1 : Int) (a2 : Int) (a3 : Int) (Z : dz_Z) (H : dz_p (jf_F_leak c0 a1 a2 a3 Z) (fun q => Q (some (dz_I q.1)) (hz_0 q.2))) : mm_Wp X D mm_r20 0 [some (.ref c0), some (dz_I a1), some (dz_I a2), some (dz_I a3)] [] (hz_0 Z) Q := by
  unfold jf_F_leak at H
  refine wp_s (i := .aload_n 0) (n := 1) (pc' := 1) (st' := [.ref c0]) rfl rfl ?_
  refine wq_gr (idx := 9) (a := c0 + 1) (pc' := 4) rfl rfl (ho_F hc0) rfl rfl ?_
  refine wp_s (i := .iload_n 1) (n := 1) (pc' := 5) (st' := [dz_I a1, .ref (c0 + 1)]) rfl rfl ?_
  refine wp_s (i := .dup2) (n := 1) (pc' := 6) (st' := [dz_I a1, .ref (c0 + 1), dz_I a1, .ref (c0 + 1)]) rfl rfl ?_
  obtain ⟨k1, H⟩ := dz_ck H
  refine wq_ia (j' := dz_c a1) (pc' := 7) rfl (ha_F_0 hc0) rfl k1.1 k1.2 rfl ?_
  refine wp_s (i := .iload_n 3) (n := 1) (pc' := 8) (st' := [dz_I a3, dz_I (Z c0 0 (dz_c a1)), dz_I a1, .ref (c0 + 1)]) rfl rfl ?_
  refine wq_2 (i := .iadd) (z := (Z c0 0 (dz_c a1)) + a3) (pc' := 9) rfl rfl (op_add _ _) rfl ?_
  refine wq_is (j' := dz_c a1) (x := (Z c0 0 (dz_c a1)) + a3) (pc' := 10) rfl (ha_F_0 hc0) rfl k1.1 k1.2 rfl (fun Z2 eZ2 => ?_)
  replace H := dz_le H Z2 eZ2
  clear eZ2
  refine wp_s (i := .aload_n 0) (n := 1) (pc' := 11) (st' := [.ref c0]) rfl rfl ?_
  refine wq_gr (idx := 9) (a := c0 + 1) (pc' := 14) rfl rfl (ho_F hc0) rfl rfl ?_
  refine wp_s (i := .iload_n 1) (n := 1) (pc' := 15) (st' := [dz_I a1, .ref (c0 + 1)]) rfl rfl ?_
  refine wq_ia (j' := dz_c a1) (pc' := 16) rfl (ha_F_0 hc0) rfl k1.1 k1.2 rfl ?_
  refine wp_s (i := .iload_n 2) (n := 1) (pc' := 17) (st' := [dz_I a2, dz_I (Z2 c0 0 (dz_c a1))]) rfl rfl ?_
  refine wq_ic (p := dz_c (Z2 c0 0 (dz_c a1)) < dz_c a2) (tt := 44) (pc' := 20) rfl rfl (cq_lt rfl rfl) rfl (fun c3 => ?_) (fun c3 => ?_)
  · replace H := dz_it c3 H
    refine wp_s (i := .aload_n 0) (n := 1) (pc' := 45) (st' := [.ref c0]) rfl rfl ?_
    refine wq_gr (idx := 9) (a := c0 + 1) (pc' := 48) rfl rfl (ho_F hc0) rfl rfl ?_
    refine wp_s (i := .iload_n 1) (n := 1) (pc' := 49) (st' := [dz_I a1, .ref (c0 + 1)]) rfl rfl ?_
    refine wq_ia (j' := dz_c a1) (pc' := 50) rfl (ha_F_0 hc0) rfl k1.1 k1.2 rfl ?_
    refine wq_if (p := dz_c (Z2 c0 0 (dz_c a1)) ≤ 0) (tt := 73) (pc' := 53) rfl rfl (cz_le rfl) rfl (fun c4 => ?_) (fun c4 => ?_)
    · replace H := dz_it c4 H
      refine wp_s (i := .iconst 0) (n := 1) (pc' := 74) (st' := [dz_I 0]) rfl rfl ?_
      refine wq_ri rfl rfl ?_
      replace H := dz_sm H
      exact H
    · replace H := dz_if c4 H
      refine wp_s (i := .aload_n 0) (n := 1) (pc' := 54) (st' := [.ref c0]) rfl rfl ?_
      refine wp_s (i := .dup) (n := 1) (pc' := 55) (st' := [.ref c0, .ref c0]) rfl rfl ?_
      refine wq_gi (idx := 50) (pc' := 58) rfl rfl (ho_F hc0) rfl rfl ?_
      refine wp_s (i := .iconst 1) (n := 1) (pc' := 59) (st' := [dz_I 1, dz_I (Z2 c0 7 0), .ref c0]) rfl rfl ?_
      refine wq_2 (i := .iadd) (z := (Z2 c0 7 0) + 1) (pc' := 60) rfl rfl (op_add _ _) rfl ?_
      refine wq_pi (idx := 50) (x := (Z2 c0 7 0) + 1) (pc' := 63) rfl rfl rfl (ho_F hc0) rfl rfl rfl rfl (fun Z5 eZ5 => ?_)
      replace H := dz_le H Z5 eZ5
      clear eZ5
      refine wp_s (i := .aload_n 0) (n := 1) (pc' := 64) (st' := [.ref c0]) rfl rfl ?_
      refine wq_gr (idx := 9) (a := c0 + 1) (pc' := 67) rfl rfl (ho_F hc0) rfl rfl ?_
      refine wp_s (i := .iload_n 1) (n := 1) (pc' := 68) (st' := [dz_I a1, .ref (c0 + 1)]) rfl rfl ?_
      refine wp_s (i := .dup2) (n := 1) (pc' := 69) (st' := [dz_I a1, .ref (c0 + 1), dz_I a1, .ref (c0 + 1)]) rfl rfl ?_
      refine wq_ia (j' := dz_c a1) (pc' := 70) rfl (ha_F_0 hc0) rfl k1.1 k1.2 rfl ?_
      refine wp_s (i := .iconst 1) (n := 1) (pc' := 71) (st' := [dz_I 1, dz_I (Z5 c0 0 (dz_c a1)), dz_I a1, .ref (c0 + 1)]) rfl rfl ?_
      refine wq_2 (i := .isub) (z := (Z5 c0 0 (dz_c a1)) - 1) (pc' := 72) rfl rfl (op_sub _ _) rfl ?_
      refine wq_is (j' := dz_c a1) (x := (Z5 c0 0 (dz_c a1)) - 1) (pc' := 73) rfl (ha_F_0 hc0) rfl k1.1 k1.2 rfl (fun Z6 eZ6 => ?_)
      replace H := dz_le H Z6 eZ6
      clear eZ6
      refine wp_s (i := .iconst 0) (n := 1) (pc' := 74) (st' := [dz_I 0]) rfl rfl ?_
      refine wq_ri rfl rfl ?_
      replace H := dz_sm H
      exact H
  · replace H := dz_if c3 H
    refine wp_s (i := .aload_n 0) (n := 1) (pc' := 21) (st' := [.ref c0]) rfl rfl ?_
    refine wp_s (i := .dup) (n := 1) (pc' := 22) (st' := [.ref c0, .ref c0]) rfl rfl ?_
    refine wq_gi (idx := 50) (pc' := 25) rfl rfl (ho_F hc0) rfl rfl ?_
    refine wp_s (i := .aload_n 0) (n := 1) (pc' := 26) (st' := [.ref c0, dz_I (Z2 c0 7 0), .ref c0]) rfl rfl ?_
    refine wq_gr (idx := 9) (a := c0 + 1) (pc' := 29) rfl rfl (ho_F hc0) rfl rfl ?_
    refine wp_s (i := .iload_n 1) (n := 1) (pc' := 30) (st' := [dz_I a1, .ref (c0 + 1), dz_I (Z2 c0 7 0), .ref c0]) rfl rfl ?_
    refine wq_ia (j' := dz_c a1) (pc' := 31) rfl (ha_F_0 hc0) rfl k1.1 k1.2 rfl ?_
    refine wq_2 (i := .iadd) (z := (Z2 c0 7 0) + (Z2 c0 0 (dz_c a1))) (pc' := 32) rfl rfl (op_add _ _) rfl ?_
    refine wq_pi (idx := 50) (x := (Z2 c0 7 0) + (Z2 c0 0 (dz_c a1))) (pc' := 35) rfl rfl rfl (ho_F hc0) rfl rfl rfl rfl (fun Z7 eZ7 => ?_)
    replace H := dz_le H Z7 eZ7
    clear eZ7
    refine wp_s (i := .aload_n 0) (n := 1) (pc' := 36) (st' := [.ref c0]) rfl rfl ?_
    refine wq_gr (idx := 9) (a := c0 + 1) (pc' := 39) rfl rfl (ho_F hc0) rfl rfl ?_
    refine wp_s (i := .iload_n 1) (n := 1) (pc' := 40) (st' := [dz_I a1, .ref (c0 + 1)]) rfl rfl ?_
    refine wp_s (i := .iconst 0) (n := 1) (pc' := 41) (st' := [dz_I 0, dz_I a1, .ref (c0 + 1)]) rfl rfl ?_
    refine wq_is (j' := dz_c a1) (x := 0) (pc' := 42) rfl (ha_F_0 hc0) rfl k1.1 k1.2 rfl (fun Z8 eZ8 => ?_)
    replace H := dz_le H Z8 eZ8
    clear eZ8
    refine wp_s (i := .iconst 1) (n := 1) (pc' := 43) (st' := [dz_I 1]) rfl rfl ?_
    refine wq_ri rfl rfl ?_
    replace H := dz_sm H
    exact H
-- 21
def jf_F_countEach (c0 : Nat) (a1 : Int) (a2 : Int) (a3 : Int) (Z : dz_Z) : Option (Int × dz_Z) := dz_a (dz_u Z c0 7 0 ((Z c0 7 0) + a3)) fun Z1 => if 0 ≤ dz_c a1 ∧ dz_c a1 < 8 then dz_a (dz_u Z1 c0 1 (dz_c a1) ((Z1 c0 1 (dz_c a1)) + a3)) fun Z3 => Option.bind (α := Int) (if dz_c a2 ≤ 0 then (some 0) else (if dz_c a2 ≠ 0 then some (Int.tdiv (dz_c (Z3 c0 1 (dz_c a1))) (dz_c a2)) else none)) (fun (q6 : Int) => dz_a (dz_u Z3 c0 1 (dz_c a1) ((Z3 c0 1 (dz_c a1)) - (q6 * a2))) fun Z7 => some (q6, Z7)) else none
set_option maxRecDepth 20000 in
theorem jw_F_countEach {X : Option (List Int32)} {D : Nat} {Q : Option Value → mm_H → Prop} (c0 : Nat) (hc0 : hz_isF c0) (a1 : Int) (a2 : Int) (a3 : Int) (Z : dz_Z) (H : dz_p (jf_F_countEach c0 a1 a2 a3 Z) (fun q => Q (some (dz_I q.1)) (hz_0 q.2))) : mm_Wp X D mm_r21 0 [some (.ref c0), some (dz_I a1), some (dz_I a2), some (dz_I a3), none] [] (hz_0 Z) Q := by
  unfold jf_F_countEach at H
  refine wp_s (i := .aload_n 0) (n := 1) (pc' := 1) (st' := [.ref c0]) rfl rfl ?_
  refine wp_s (i := .dup) (n := 1) (pc' := 2) (st' := [.ref c0, .ref c0]) rfl rfl ?_
  refine wq_gi (idx := 50) (pc' := 5) rfl rfl (ho_F hc0) rfl rfl ?_
  refine wp_s (i := .iload_n 3) (n := 1) (pc' := 6) (st' := [dz_I a3, dz_I (Z c0 7 0), .ref c0]) rfl rfl ?_
  refine wq_2 (i := .iadd) (z := (Z c0 7 0) + a3) (pc' := 7) rfl rfl (op_add _ _) rfl ?_
  refine wq_pi (idx := 50) (x := (Z c0 7 0) + a3) (pc' := 10) rfl rfl rfl (ho_F hc0) rfl rfl rfl rfl (fun Z1 eZ1 => ?_)
  replace H := dz_le H Z1 eZ1
  clear eZ1
  refine wp_s (i := .aload_n 0) (n := 1) (pc' := 11) (st' := [.ref c0]) rfl rfl ?_
  refine wq_gr (idx := 15) (a := c0 + 2) (pc' := 14) rfl rfl (ho_F hc0) rfl rfl ?_
  refine wp_s (i := .iload_n 1) (n := 1) (pc' := 15) (st' := [dz_I a1, .ref (c0 + 2)]) rfl rfl ?_
  refine wp_s (i := .dup2) (n := 1) (pc' := 16) (st' := [dz_I a1, .ref (c0 + 2), dz_I a1, .ref (c0 + 2)]) rfl rfl ?_
  obtain ⟨k2, H⟩ := dz_ck H
  refine wq_ia (j' := dz_c a1) (pc' := 17) rfl (ha_F_1 hc0) rfl k2.1 k2.2 rfl ?_
  refine wp_s (i := .iload_n 3) (n := 1) (pc' := 18) (st' := [dz_I a3, dz_I (Z1 c0 1 (dz_c a1)), dz_I a1, .ref (c0 + 2)]) rfl rfl ?_
  refine wq_2 (i := .iadd) (z := (Z1 c0 1 (dz_c a1)) + a3) (pc' := 19) rfl rfl (op_add _ _) rfl ?_
  refine wq_is (j' := dz_c a1) (x := (Z1 c0 1 (dz_c a1)) + a3) (pc' := 20) rfl (ha_F_1 hc0) rfl k2.1 k2.2 rfl (fun Z3 eZ3 => ?_)
  replace H := dz_le H Z3 eZ3
  clear eZ3
  refine wp_s (i := .iload_n 2) (n := 1) (pc' := 21) (st' := [dz_I a2]) rfl rfl ?_
  refine dz_jn (P := fun (q6 : Int) => mm_Wp X D mm_r21 36 [some (.ref c0), some (dz_I a1), some (dz_I a2), some (dz_I a3), none] [dz_I q6] (hz_0 Z3) Q) (dz_bi H) (fun q6 H => ?_) (fun H => ?_)
  · skip
    refine wq_st (k := 4) (i := .istore 4) (n := 2) (ls' := [some (.ref c0), some (dz_I a1), some (dz_I a2), some (dz_I a3), some (dz_I q6)]) (pc' := 38) rfl rfl rfl rfl rfl ?_
    refine wp_s (i := .aload_n 0) (n := 1) (pc' := 39) (st' := [.ref c0]) rfl rfl ?_
    refine wq_gr (idx := 15) (a := c0 + 2) (pc' := 42) rfl rfl (ho_F hc0) rfl rfl ?_
    refine wp_s (i := .iload_n 1) (n := 1) (pc' := 43) (st' := [dz_I a1, .ref (c0 + 2)]) rfl rfl ?_
    refine wp_s (i := .dup2) (n := 1) (pc' := 44) (st' := [dz_I a1, .ref (c0 + 2), dz_I a1, .ref (c0 + 2)]) rfl rfl ?_
    refine wq_ia (j' := dz_c a1) (pc' := 45) rfl (ha_F_1 hc0) rfl k2.1 k2.2 rfl ?_
    refine wp_s (i := .iload 4) (n := 2) (pc' := 47) (st' := [dz_I q6, dz_I (Z3 c0 1 (dz_c a1)), dz_I a1, .ref (c0 + 2)]) rfl rfl ?_
    refine wp_s (i := .iload_n 2) (n := 1) (pc' := 48) (st' := [dz_I a2, dz_I q6, dz_I (Z3 c0 1 (dz_c a1)), dz_I a1, .ref (c0 + 2)]) rfl rfl ?_
    refine wq_2 (i := .imul) (z := q6 * a2) (pc' := 49) rfl rfl (op_mul _ _) rfl ?_
    refine wq_2 (i := .isub) (z := (Z3 c0 1 (dz_c a1)) - (q6 * a2)) (pc' := 50) rfl rfl (op_sub _ _) rfl ?_
    refine wq_is (j' := dz_c a1) (x := (Z3 c0 1 (dz_c a1)) - (q6 * a2)) (pc' := 51) rfl (ha_F_1 hc0) rfl k2.1 k2.2 rfl (fun Z7 eZ7 => ?_)
    replace H := dz_le H Z7 eZ7
    clear eZ7
    refine wp_s (i := .iload 4) (n := 2) (pc' := 53) (st' := [dz_I q6]) rfl rfl ?_
    refine wq_ri rfl rfl ?_
    replace H := dz_sm H
    exact H
  · skip
    refine wq_if (p := dz_c a2 ≤ 0) (tt := 35) (pc' := 24) rfl rfl (cz_le rfl) rfl (fun c8 => ?_) (fun c8 => ?_)
    · replace H := dz_it c8 H
      refine wp_s (i := .iconst 0) (n := 1) (pc' := 36) (st' := [dz_I 0]) rfl rfl ?_
      replace H := dz_sm H
      exact H
    · replace H := dz_if c8 H
      refine wp_s (i := .aload_n 0) (n := 1) (pc' := 25) (st' := [.ref c0]) rfl rfl ?_
      refine wq_gr (idx := 15) (a := c0 + 2) (pc' := 28) rfl rfl (ho_F hc0) rfl rfl ?_
      refine wp_s (i := .iload_n 1) (n := 1) (pc' := 29) (st' := [dz_I a1, .ref (c0 + 2)]) rfl rfl ?_
      refine wq_ia (j' := dz_c a1) (pc' := 30) rfl (ha_F_1 hc0) rfl k2.1 k2.2 rfl ?_
      refine wp_s (i := .iload_n 2) (n := 1) (pc' := 31) (st' := [dz_I a2, dz_I (Z3 c0 1 (dz_c a1))]) rfl rfl ?_
      obtain ⟨k9, H⟩ := dz_ck H
      refine wq_2 (i := .idiv) (z := Int.tdiv (dz_c (Z3 c0 1 (dz_c a1))) (dz_c a2)) (pc' := 32) rfl rfl (op_div rfl rfl k9) rfl ?_
      refine wp_s (i := .goto 4) (n := 3) (pc' := 36) (st' := [dz_I (Int.tdiv (dz_c (Z3 c0 1 (dz_c a1))) (dz_c a2))]) rfl rfl ?_
      replace H := dz_sm H
      exact H
end mg_25m00
section mg_25m01
-- 18
def jf_F_fillCup (c0 : Nat) (a1 : Nat) (a2 : Int) (a3 : Int) (a4 : Int) (Z : dz_Z) : Option (Int × dz_Z) := if dz_c a2 = 0 then (dz_a (dz_u Z c0 7 0 ((Z c0 7 0) + a4)) fun Z2 => if dz_c a4 ≤ 0 then (some (0, Z2)) else (some (1, Z2))) else (if dz_c a2 = 1 then (if 0 ≤ dz_c a3 ∧ dz_c a3 < 8 then Option.bind (jf_F_tip c0 a3 (Z a1 8 (dz_c a3)) a4 20 Z) fun q6 => some (q6.1, q6.2) else none) else (if dz_c a2 = 2 then (if 0 ≤ dz_c a3 ∧ dz_c a3 < 8 then Option.bind (jf_F_leak c0 a3 (Z a1 8 (dz_c a3)) a4 Z) fun q9 => some (q9.1, q9.2) else none) else (if dz_c a2 = 3 then (if 0 ≤ dz_c a3 ∧ dz_c a3 < 8 then Option.bind (jf_F_countEach c0 a3 (Z a1 8 (dz_c a3)) a4 Z) fun q12 => some (q12.1, q12.2) else none) else (if dz_c a2 = 4 then (if 0 ≤ dz_c a3 ∧ dz_c a3 < 8 then Option.bind (jf_F_tip c0 a3 (Z a1 8 (dz_c a3)) a4 (Z a1 9 (dz_c a3)) Z) fun q15 => some (q15.1, q15.2) else none) else (dz_a (dz_u Z c0 7 0 ((Z c0 7 0) + a4)) fun Z16 => some (0, Z16))))))
set_option maxRecDepth 20000 in
theorem jw_F_fillCup {X : Option (List Int32)} {D : Nat} {Q : Option Value → mm_H → Prop} (c0 : Nat) (hc0 : hz_isF c0) (a1 : Nat) (ha1 : hz_isP a1) (a2 : Int) (a3 : Int) (a4 : Int) (Z : dz_Z) (H : dz_p (jf_F_fillCup c0 a1 a2 a3 a4 Z) (fun q => Q (some (dz_I q.1)) (hz_0 q.2))) : mm_Wp X (D + 1) mm_r18 0 [some (.ref c0), some (.ref a1), some (dz_I a2), some (dz_I a3), some (dz_I a4)] [] (hz_0 Z) Q := by
  unfold jf_F_fillCup at H
  refine wp_s (i := .iload_n 2) (n := 1) (pc' := 1) (st' := [dz_I a2]) rfl rfl ?_
  by_cases c1 : dz_c a2 = 0
  · replace H := dz_it c1 H
    refine wq_ts (x' := dz_c a2) (tt := 36) rfl rfl (by rw [c1]; rfl) ?_
    refine wp_s (i := .aload_n 0) (n := 1) (pc' := 37) (st' := [.ref c0]) rfl rfl ?_
    refine wp_s (i := .dup) (n := 1) (pc' := 38) (st' := [.ref c0, .ref c0]) rfl rfl ?_
    refine wq_gi (idx := 50) (pc' := 41) rfl rfl (ho_F hc0) rfl rfl ?_
    refine wp_s (i := .iload 4) (n := 2) (pc' := 43) (st' := [dz_I a4, dz_I (Z c0 7 0), .ref c0]) rfl rfl ?_
    refine wq_2 (i := .iadd) (z := (Z c0 7 0) + a4) (pc' := 44) rfl rfl (op_add _ _) rfl ?_
    refine wq_pi (idx := 50) (x := (Z c0 7 0) + a4) (pc' := 47) rfl rfl rfl (ho_F hc0) rfl rfl rfl rfl (fun Z2 eZ2 => ?_)
    replace H := dz_le H Z2 eZ2
    clear eZ2
    refine wp_s (i := .iload 4) (n := 2) (pc' := 49) (st' := [dz_I a4]) rfl rfl ?_
    refine wq_if (p := dz_c a4 ≤ 0) (tt := 56) (pc' := 52) rfl rfl (cz_le rfl) rfl (fun c3 => ?_) (fun c3 => ?_)
    · replace H := dz_it c3 H
      refine wp_s (i := .iconst 0) (n := 1) (pc' := 57) (st' := [dz_I 0]) rfl rfl ?_
      refine wq_ri rfl rfl ?_
      replace H := dz_sm H
      exact H
    · replace H := dz_if c3 H
      refine wp_s (i := .iconst 1) (n := 1) (pc' := 53) (st' := [dz_I 1]) rfl rfl ?_
      refine wp_s (i := .goto 4) (n := 3) (pc' := 57) (st' := [dz_I 1]) rfl rfl ?_
      refine wq_ri rfl rfl ?_
      replace H := dz_sm H
      exact H
  · replace H := dz_if c1 H
    by_cases c4 : dz_c a2 = 1
    · replace H := dz_it c4 H
      refine wq_ts (x' := dz_c a2) (tt := 58) rfl rfl (by rw [c4]; rfl) ?_
      refine wp_s (i := .aload_n 0) (n := 1) (pc' := 59) (st' := [.ref c0]) rfl rfl ?_
      refine wp_s (i := .iload_n 3) (n := 1) (pc' := 60) (st' := [dz_I a3, .ref c0]) rfl rfl ?_
      refine wp_s (i := .aload_n 1) (n := 1) (pc' := 61) (st' := [.ref a1, dz_I a3, .ref c0]) rfl rfl ?_
      refine wq_gr (idx := 130) (a := a1 + 6) (pc' := 64) rfl rfl (ho_P ha1) rfl rfl ?_
      refine wp_s (i := .iload_n 3) (n := 1) (pc' := 65) (st' := [dz_I a3, .ref (a1 + 6), dz_I a3, .ref c0]) rfl rfl ?_
      obtain ⟨k5, H⟩ := dz_ck H
      refine wq_ia (j' := dz_c a3) (pc' := 66) rfl (ha_P_8 ha1) rfl k5.1 k5.2 rfl ?_
      refine wp_s (i := .iload 4) (n := 2) (pc' := 68) (st' := [dz_I a4, dz_I (Z a1 8 (dz_c a3)), dz_I a3, .ref c0]) rfl rfl ?_
      refine wp_s (i := .bipush 20) (n := 2) (pc' := 70) (st' := [dz_I 20, dz_I a4, dz_I (Z a1 8 (dz_c a3)), dz_I a3, .ref c0]) rfl rfl ?_
      refine wq_cv (Dq := D) (r' := mm_r19) (as0 := [dz_I a3, dz_I (Z a1 8 (dz_c a3)), dz_I a4, dz_I 20]) (rest := []) (ls' := [some (.ref c0), some (dz_I a3), some (dz_I (Z a1 8 (dz_c a3))), some (dz_I a4), some (dz_I 20), none, none]) (pc' := 73) rfl rfl rfl rfl (ho_F hc0) rfl rfl rfl ?_
      refine jw_F_tip (X := X) (D := D + 0) c0 hc0 a3 (Z a1 8 (dz_c a3)) a4 20 Z (dz_pm (dz_bi H) (fun q6 H => ?_))
      show mm_Wp X (D + 1) mm_r18 73 [some (.ref c0), some (.ref a1), some (dz_I a2), some (dz_I a3), some (dz_I a4)] [dz_I q6.1] (hz_0 q6.2) Q
      refine wq_ri rfl rfl ?_
      replace H := dz_sm H
      exact H
    · replace H := dz_if c4 H
      by_cases c7 : dz_c a2 = 2
      · replace H := dz_it c7 H
        refine wq_ts (x' := dz_c a2) (tt := 74) rfl rfl (by rw [c7]; rfl) ?_
        refine wp_s (i := .aload_n 0) (n := 1) (pc' := 75) (st' := [.ref c0]) rfl rfl ?_
        refine wp_s (i := .iload_n 3) (n := 1) (pc' := 76) (st' := [dz_I a3, .ref c0]) rfl rfl ?_
        refine wp_s (i := .aload_n 1) (n := 1) (pc' := 77) (st' := [.ref a1, dz_I a3, .ref c0]) rfl rfl ?_
        refine wq_gr (idx := 130) (a := a1 + 6) (pc' := 80) rfl rfl (ho_P ha1) rfl rfl ?_
        refine wp_s (i := .iload_n 3) (n := 1) (pc' := 81) (st' := [dz_I a3, .ref (a1 + 6), dz_I a3, .ref c0]) rfl rfl ?_
        obtain ⟨k8, H⟩ := dz_ck H
        refine wq_ia (j' := dz_c a3) (pc' := 82) rfl (ha_P_8 ha1) rfl k8.1 k8.2 rfl ?_
        refine wp_s (i := .iload 4) (n := 2) (pc' := 84) (st' := [dz_I a4, dz_I (Z a1 8 (dz_c a3)), dz_I a3, .ref c0]) rfl rfl ?_
        refine wq_cv (Dq := D) (r' := mm_r20) (as0 := [dz_I a3, dz_I (Z a1 8 (dz_c a3)), dz_I a4]) (rest := []) (ls' := [some (.ref c0), some (dz_I a3), some (dz_I (Z a1 8 (dz_c a3))), some (dz_I a4)]) (pc' := 87) rfl rfl rfl rfl (ho_F hc0) rfl rfl rfl ?_
        refine jw_F_leak (X := X) (D := D + 0) c0 hc0 a3 (Z a1 8 (dz_c a3)) a4 Z (dz_pm (dz_bi H) (fun q9 H => ?_))
        show mm_Wp X (D + 1) mm_r18 87 [some (.ref c0), some (.ref a1), some (dz_I a2), some (dz_I a3), some (dz_I a4)] [dz_I q9.1] (hz_0 q9.2) Q
        refine wq_ri rfl rfl ?_
        replace H := dz_sm H
        exact H
      · replace H := dz_if c7 H
        by_cases c10 : dz_c a2 = 3
        · replace H := dz_it c10 H
          refine wq_ts (x' := dz_c a2) (tt := 88) rfl rfl (by rw [c10]; rfl) ?_
          refine wp_s (i := .aload_n 0) (n := 1) (pc' := 89) (st' := [.ref c0]) rfl rfl ?_
          refine wp_s (i := .iload_n 3) (n := 1) (pc' := 90) (st' := [dz_I a3, .ref c0]) rfl rfl ?_
          refine wp_s (i := .aload_n 1) (n := 1) (pc' := 91) (st' := [.ref a1, dz_I a3, .ref c0]) rfl rfl ?_
          refine wq_gr (idx := 130) (a := a1 + 6) (pc' := 94) rfl rfl (ho_P ha1) rfl rfl ?_
          refine wp_s (i := .iload_n 3) (n := 1) (pc' := 95) (st' := [dz_I a3, .ref (a1 + 6), dz_I a3, .ref c0]) rfl rfl ?_
          obtain ⟨k11, H⟩ := dz_ck H
          refine wq_ia (j' := dz_c a3) (pc' := 96) rfl (ha_P_8 ha1) rfl k11.1 k11.2 rfl ?_
          refine wp_s (i := .iload 4) (n := 2) (pc' := 98) (st' := [dz_I a4, dz_I (Z a1 8 (dz_c a3)), dz_I a3, .ref c0]) rfl rfl ?_
          refine wq_cv (Dq := D) (r' := mm_r21) (as0 := [dz_I a3, dz_I (Z a1 8 (dz_c a3)), dz_I a4]) (rest := []) (ls' := [some (.ref c0), some (dz_I a3), some (dz_I (Z a1 8 (dz_c a3))), some (dz_I a4), none]) (pc' := 101) rfl rfl rfl rfl (ho_F hc0) rfl rfl rfl ?_
          refine jw_F_countEach (X := X) (D := D + 0) c0 hc0 a3 (Z a1 8 (dz_c a3)) a4 Z (dz_pm (dz_bi H) (fun q12 H => ?_))
          show mm_Wp X (D + 1) mm_r18 101 [some (.ref c0), some (.ref a1), some (dz_I a2), some (dz_I a3), some (dz_I a4)] [dz_I q12.1] (hz_0 q12.2) Q
          refine wq_ri rfl rfl ?_
          replace H := dz_sm H
          exact H
        · replace H := dz_if c10 H
          by_cases c13 : dz_c a2 = 4
          · replace H := dz_it c13 H
            refine wq_ts (x' := dz_c a2) (tt := 102) rfl rfl (by rw [c13]; rfl) ?_
            refine wp_s (i := .aload_n 0) (n := 1) (pc' := 103) (st' := [.ref c0]) rfl rfl ?_
            refine wp_s (i := .iload_n 3) (n := 1) (pc' := 104) (st' := [dz_I a3, .ref c0]) rfl rfl ?_
            refine wp_s (i := .aload_n 1) (n := 1) (pc' := 105) (st' := [.ref a1, dz_I a3, .ref c0]) rfl rfl ?_
            refine wq_gr (idx := 130) (a := a1 + 6) (pc' := 108) rfl rfl (ho_P ha1) rfl rfl ?_
            refine wp_s (i := .iload_n 3) (n := 1) (pc' := 109) (st' := [dz_I a3, .ref (a1 + 6), dz_I a3, .ref c0]) rfl rfl ?_
            obtain ⟨k14, H⟩ := dz_ck H
            refine wq_ia (j' := dz_c a3) (pc' := 110) rfl (ha_P_8 ha1) rfl k14.1 k14.2 rfl ?_
            refine wp_s (i := .iload 4) (n := 2) (pc' := 112) (st' := [dz_I a4, dz_I (Z a1 8 (dz_c a3)), dz_I a3, .ref c0]) rfl rfl ?_
            refine wp_s (i := .aload_n 1) (n := 1) (pc' := 113) (st' := [.ref a1, dz_I a4, dz_I (Z a1 8 (dz_c a3)), dz_I a3, .ref c0]) rfl rfl ?_
            refine wq_gr (idx := 144) (a := a1 + 7) (pc' := 116) rfl rfl (ho_P ha1) rfl rfl ?_
            refine wp_s (i := .iload_n 3) (n := 1) (pc' := 117) (st' := [dz_I a3, .ref (a1 + 7), dz_I a4, dz_I (Z a1 8 (dz_c a3)), dz_I a3, .ref c0]) rfl rfl ?_
            refine wq_ia (j' := dz_c a3) (pc' := 118) rfl (ha_P_9 ha1) rfl k14.1 k14.2 rfl ?_
            refine wq_cv (Dq := D) (r' := mm_r19) (as0 := [dz_I a3, dz_I (Z a1 8 (dz_c a3)), dz_I a4, dz_I (Z a1 9 (dz_c a3))]) (rest := []) (ls' := [some (.ref c0), some (dz_I a3), some (dz_I (Z a1 8 (dz_c a3))), some (dz_I a4), some (dz_I (Z a1 9 (dz_c a3))), none, none]) (pc' := 121) rfl rfl rfl rfl (ho_F hc0) rfl rfl rfl ?_
            refine jw_F_tip (X := X) (D := D + 0) c0 hc0 a3 (Z a1 8 (dz_c a3)) a4 (Z a1 9 (dz_c a3)) Z (dz_pm (dz_bi H) (fun q15 H => ?_))
            show mm_Wp X (D + 1) mm_r18 121 [some (.ref c0), some (.ref a1), some (dz_I a2), some (dz_I a3), some (dz_I a4)] [dz_I q15.1] (hz_0 q15.2) Q
            refine wq_ri rfl rfl ?_
            replace H := dz_sm H
            exact H
          · replace H := dz_if c13 H
            refine wq_ts (x' := dz_c a2) (tt := 122) rfl rfl (by unfold mm_sw; rw [if_pos (by omega)]; rfl) ?_
            refine wp_s (i := .aload_n 0) (n := 1) (pc' := 123) (st' := [.ref c0]) rfl rfl ?_
            refine wp_s (i := .dup) (n := 1) (pc' := 124) (st' := [.ref c0, .ref c0]) rfl rfl ?_
            refine wq_gi (idx := 50) (pc' := 127) rfl rfl (ho_F hc0) rfl rfl ?_
            refine wp_s (i := .iload 4) (n := 2) (pc' := 129) (st' := [dz_I a4, dz_I (Z c0 7 0), .ref c0]) rfl rfl ?_
            refine wq_2 (i := .iadd) (z := (Z c0 7 0) + a4) (pc' := 130) rfl rfl (op_add _ _) rfl ?_
            refine wq_pi (idx := 50) (x := (Z c0 7 0) + a4) (pc' := 133) rfl rfl rfl (ho_F hc0) rfl rfl rfl rfl (fun Z16 eZ16 => ?_)
            replace H := dz_le H Z16 eZ16
            clear eZ16
            refine wp_s (i := .iconst 0) (n := 1) (pc' := 134) (st' := [dz_I 0]) rfl rfl ?_
            refine wq_ri rfl rfl ?_
            replace H := dz_sm H
            exact H
-- 17
def jf_F_fillCups (c0 : Nat) (a1 : Nat) (a2 : Nat) (Z : dz_Z) : Option (Int × dz_Z) := dz_lp (fun (s1 : Int × Int × dz_Z) => if dz_c (s1.2.2 a1 6 0) ≤ dz_c s1.2.1 then (some (Sum.inr (s1.1, s1.2.2))) else (Option.bind (jf_F_isBroken c0 a1 s1.2.1 s1.2.2) fun q6 => if 0 ≤ dz_c s1.2.1 ∧ dz_c s1.2.1 < 8 then dz_a (dz_u s1.2.2 c0 2 (dz_c s1.2.1) ((s1.2.2 c0 2 (dz_c s1.2.1)) + (dz_c (s1.2.2 c0 11 (dz_c s1.2.1))))) fun Z8 => Option.bind (jf_F_fillCup c0 a1 (Z8 a2 2 (dz_c s1.2.1)) s1.2.1 (s1.2.2 c0 11 (dz_c s1.2.1)) Z8) fun q9 => Option.bind (α := Int) (if q6 = false then (some q9.1) else (some 0)) (fun (q11 : Int) => dz_a (dz_u q9.2 c0 4 (dz_c s1.2.1) q11) fun Z12 => if dz_c (Z12 c0 4 (dz_c s1.2.1)) ≤ 0 then (some (Sum.inl (s1.1, s1.2.1 + 1, Z12))) else (dz_a (dz_u Z12 c0 8 0 ((Z12 c0 8 0) + (Z12 c0 4 (dz_c s1.2.1)))) fun Z14 => dz_a (dz_u Z14 c0 9 0 (dz_or (Z14 c0 9 0) (dz_sl 1 s1.2.1))) fun Z15 => some (Sum.inl (dz_or s1.1 (dz_sl 1 (Z15 a1 7 (dz_c s1.2.1))), s1.2.1 + 1, Z15)))) else none)) 5000 (0, 0, Z)
set_option maxRecDepth 20000 in
theorem jw_F_fillCups {X : Option (List Int32)} {D : Nat} {Q : Option Value → mm_H → Prop} (c0 : Nat) (hc0 : hz_isF c0) (a1 : Nat) (ha1 : hz_isP a1) (a2 : Nat) (ha2 : hz_isS a2) (Z : dz_Z) (H : dz_p (jf_F_fillCups c0 a1 a2 Z) (fun q => Q (some (dz_I q.1)) (hz_0 q.2))) : mm_Wp X (D + 2) mm_r17 0 [some (.ref c0), some (.ref a1), some (.ref a2), none, none, none, none, none] [] (hz_0 Z) Q := by
  unfold jf_F_fillCups at H
  refine wp_s (i := .iconst 0) (n := 1) (pc' := 1) (st' := [dz_I 0]) rfl rfl ?_
  refine wq_st (k := 3) (i := .istore_n 3) (n := 1) (ls' := [some (.ref c0), some (.ref a1), some (.ref a2), some (dz_I 0), none, none, none, none]) (pc' := 2) rfl rfl rfl rfl rfl ?_
  refine wp_s (i := .iconst 0) (n := 1) (pc' := 3) (st' := [dz_I 0]) rfl rfl ?_
  refine wq_st (k := 4) (i := .istore 4) (n := 2) (ls' := [some (.ref c0), some (.ref a1), some (.ref a2), some (dz_I 0), some (dz_I 0), none, none, none]) (pc' := 5) rfl rfl rfl rfl rfl ?_
  refine dz_lpi (P := fun (s1 : Int × Int × dz_Z) => ∀ (u2 u3 u4 : Option Int32), mm_Wp X (D + 2) mm_r17 5 [some (.ref c0), some (.ref a1), some (.ref a2), some (dz_I s1.1), some (dz_I s1.2.1), Option.map Value.int u2, Option.map Value.int u3, Option.map Value.int u4] [] (hz_0 s1.2.2) Q) (fun s1 H => ?_) 5000 (0, 0, Z) H none none none
  intro u2 u3 u4
  refine wp_s (i := .iload 4) (n := 2) (pc' := 7) (st' := [dz_I s1.2.1]) rfl rfl ?_
  refine wp_s (i := .aload_n 1) (n := 1) (pc' := 8) (st' := [.ref a1, dz_I s1.2.1]) rfl rfl ?_
  refine wq_gi (idx := 113) (pc' := 11) rfl rfl (ho_P ha1) rfl rfl ?_
  refine wq_ic (p := dz_c (s1.2.2 a1 6 0) ≤ dz_c s1.2.1) (tt := 138) (pc' := 14) rfl rfl (cq_ge rfl rfl) rfl (fun c5 => ?_) (fun c5 => ?_)
  · replace H := dz_it c5 H
    refine wp_s (i := .iload_n 3) (n := 1) (pc' := 139) (st' := [dz_I s1.1]) rfl rfl ?_
    refine wq_ri rfl rfl ?_
    replace H := dz_out H
    replace H := dz_sm H
    exact H
  · replace H := dz_if c5 H
    refine wp_s (i := .aload_n 0) (n := 1) (pc' := 15) (st' := [.ref c0]) rfl rfl ?_
    refine wp_s (i := .aload_n 1) (n := 1) (pc' := 16) (st' := [.ref a1, .ref c0]) rfl rfl ?_
    refine wp_s (i := .iload 4) (n := 2) (pc' := 18) (st' := [dz_I s1.2.1, .ref a1, .ref c0]) rfl rfl ?_
    refine wq_cv (Dq := (D + 1)) (r' := mm_r23) (as0 := [.ref a1, dz_I s1.2.1]) (rest := []) (ls' := [some (.ref c0), some (.ref a1), some (dz_I s1.2.1)]) (pc' := 21) rfl rfl rfl rfl (ho_F hc0) rfl rfl rfl ?_
    refine jw_F_isBroken (X := X) (D := D + 1) c0 hc0 a1 ha1 s1.2.1 s1.2.2 (dz_pm (dz_bi H) (fun q6 H => ?_))
    show mm_Wp X (D + 2) mm_r17 21 [some (.ref c0), some (.ref a1), some (.ref a2), some (dz_I s1.1), some (dz_I s1.2.1), Option.map Value.int u2, Option.map Value.int u3, Option.map Value.int u4] [dz_B q6] (hz_0 s1.2.2) Q
    refine wq_st (k := 5) (i := .istore 5) (n := 2) (ls' := [some (.ref c0), some (.ref a1), some (.ref a2), some (dz_I s1.1), some (dz_I s1.2.1), some (dz_B q6), Option.map Value.int u3, Option.map Value.int u4]) (pc' := 23) rfl rfl rfl rfl rfl ?_
    refine wp_s (i := .aload_n 0) (n := 1) (pc' := 24) (st' := [.ref c0]) rfl rfl ?_
    refine wq_gr (idx := 31) (a := c0 + 7) (pc' := 27) rfl rfl (ho_F hc0) rfl rfl ?_
    refine wp_s (i := .iload 4) (n := 2) (pc' := 29) (st' := [dz_I s1.2.1, .ref (c0 + 7)]) rfl rfl ?_
    obtain ⟨k7, H⟩ := dz_ck H
    refine wq_ia (j' := dz_c s1.2.1) (pc' := 30) rfl (ha_F_11 hc0) rfl k7.1 k7.2 rfl ?_
    refine wq_st (k := 6) (i := .istore 6) (n := 2) (ls' := [some (.ref c0), some (.ref a1), some (.ref a2), some (dz_I s1.1), some (dz_I s1.2.1), some (dz_B q6), some (dz_I (s1.2.2 c0 11 (dz_c s1.2.1))), Option.map Value.int u4]) (pc' := 32) rfl rfl rfl rfl rfl ?_
    refine wp_s (i := .aload_n 0) (n := 1) (pc' := 33) (st' := [.ref c0]) rfl rfl ?_
    refine wq_gr (idx := 18) (a := c0 + 3) (pc' := 36) rfl rfl (ho_F hc0) rfl rfl ?_
    refine wp_s (i := .iload 4) (n := 2) (pc' := 38) (st' := [dz_I s1.2.1, .ref (c0 + 3)]) rfl rfl ?_
    refine wp_s (i := .dup2) (n := 1) (pc' := 39) (st' := [dz_I s1.2.1, .ref (c0 + 3), dz_I s1.2.1, .ref (c0 + 3)]) rfl rfl ?_
    refine wq_la (j' := dz_c s1.2.1) (pc' := 40) rfl (ha_F_2 hc0) rfl k7.1 k7.2 rfl ?_
    refine wp_s (i := .iload 6) (n := 2) (pc' := 42) (st' := [dz_I (s1.2.2 c0 11 (dz_c s1.2.1)), dz_J (s1.2.2 c0 2 (dz_c s1.2.1)), dz_I s1.2.1, .ref (c0 + 3)]) rfl rfl ?_
    refine wq_3 (i := .i2l) (v' := dz_J (dz_c (s1.2.2 c0 11 (dz_c s1.2.1)))) (pc' := 43) rfl rfl (oq_i2l' rfl) rfl ?_
    refine wq_4 (i := .ladd) (v' := dz_J ((s1.2.2 c0 2 (dz_c s1.2.1)) + (dz_c (s1.2.2 c0 11 (dz_c s1.2.1))))) (pc' := 44) rfl rfl (ol_add _ _) rfl ?_
    refine wq_ls (j' := dz_c s1.2.1) (x := (s1.2.2 c0 2 (dz_c s1.2.1)) + (dz_c (s1.2.2 c0 11 (dz_c s1.2.1)))) (pc' := 45) rfl (ha_F_2 hc0) rfl k7.1 k7.2 rfl (fun Z8 eZ8 => ?_)
    replace H := dz_le H Z8 eZ8
    clear eZ8
    refine wp_s (i := .aload_n 0) (n := 1) (pc' := 46) (st' := [.ref c0]) rfl rfl ?_
    refine wp_s (i := .aload_n 1) (n := 1) (pc' := 47) (st' := [.ref a1, .ref c0]) rfl rfl ?_
    refine wp_s (i := .aload_n 2) (n := 1) (pc' := 48) (st' := [.ref a2, .ref a1, .ref c0]) rfl rfl ?_
    refine wq_gr (idx := 120) (a := a2 + 3) (pc' := 51) rfl rfl (ho_S ha2) rfl rfl ?_
    refine wp_s (i := .iload 4) (n := 2) (pc' := 53) (st' := [dz_I s1.2.1, .ref (a2 + 3), .ref a1, .ref c0]) rfl rfl ?_
    refine wq_ia (j' := dz_c s1.2.1) (pc' := 54) rfl (ha_S_2 ha2) rfl k7.1 k7.2 rfl ?_
    refine wp_s (i := .iload 4) (n := 2) (pc' := 56) (st' := [dz_I s1.2.1, dz_I (Z8 a2 2 (dz_c s1.2.1)), .ref a1, .ref c0]) rfl rfl ?_
    refine wp_s (i := .iload 6) (n := 2) (pc' := 58) (st' := [dz_I (s1.2.2 c0 11 (dz_c s1.2.1)), dz_I s1.2.1, dz_I (Z8 a2 2 (dz_c s1.2.1)), .ref a1, .ref c0]) rfl rfl ?_
    refine wq_cv (Dq := (D + 1)) (r' := mm_r18) (as0 := [.ref a1, dz_I (Z8 a2 2 (dz_c s1.2.1)), dz_I s1.2.1, dz_I (s1.2.2 c0 11 (dz_c s1.2.1))]) (rest := []) (ls' := [some (.ref c0), some (.ref a1), some (dz_I (Z8 a2 2 (dz_c s1.2.1))), some (dz_I s1.2.1), some (dz_I (s1.2.2 c0 11 (dz_c s1.2.1)))]) (pc' := 61) rfl rfl rfl rfl (ho_F hc0) rfl rfl rfl ?_
    refine jw_F_fillCup (X := X) (D := D + 0) c0 hc0 a1 ha1 (Z8 a2 2 (dz_c s1.2.1)) s1.2.1 (s1.2.2 c0 11 (dz_c s1.2.1)) Z8 (dz_pm (dz_bi H) (fun q9 H => ?_))
    show mm_Wp X (D + 2) mm_r17 61 [some (.ref c0), some (.ref a1), some (.ref a2), some (dz_I s1.1), some (dz_I s1.2.1), some (dz_B q6), some (dz_I (s1.2.2 c0 11 (dz_c s1.2.1))), Option.map Value.int u4] [dz_I q9.1] (hz_0 q9.2) Q
    refine wq_st (k := 7) (i := .istore 7) (n := 2) (ls' := [some (.ref c0), some (.ref a1), some (.ref a2), some (dz_I s1.1), some (dz_I s1.2.1), some (dz_B q6), some (dz_I (s1.2.2 c0 11 (dz_c s1.2.1))), some (dz_I q9.1)]) (pc' := 63) rfl rfl rfl rfl rfl ?_
    refine wp_s (i := .aload_n 0) (n := 1) (pc' := 64) (st' := [.ref c0]) rfl rfl ?_
    refine wq_gr (idx := 25) (a := c0 + 5) (pc' := 67) rfl rfl (ho_F hc0) rfl rfl ?_
    refine wp_s (i := .iload 4) (n := 2) (pc' := 69) (st' := [dz_I s1.2.1, .ref (c0 + 5)]) rfl rfl ?_
    refine wp_s (i := .iload 5) (n := 2) (pc' := 71) (st' := [dz_B q6, dz_I s1.2.1, .ref (c0 + 5)]) rfl rfl ?_
    refine dz_jn (P := fun (q11 : Int) => mm_Wp X (D + 2) mm_r17 80 [some (.ref c0), some (.ref a1), some (.ref a2), some (dz_I s1.1), some (dz_I s1.2.1), some (dz_B q6), some (dz_I (s1.2.2 c0 11 (dz_c s1.2.1))), some (dz_I q9.1)] [dz_I q11, dz_I s1.2.1, .ref (c0 + 5)] (hz_0 q9.2) Q) (dz_bi H) (fun q11 H => ?_) (fun H => ?_)
    · skip
      refine wq_is (j' := dz_c s1.2.1) (x := q11) (pc' := 81) rfl (ha_F_4 hc0) rfl k7.1 k7.2 rfl (fun Z12 eZ12 => ?_)
      replace H := dz_le H Z12 eZ12
      clear eZ12
      refine wp_s (i := .aload_n 0) (n := 1) (pc' := 82) (st' := [.ref c0]) rfl rfl ?_
      refine wq_gr (idx := 25) (a := c0 + 5) (pc' := 85) rfl rfl (ho_F hc0) rfl rfl ?_
      refine wp_s (i := .iload 4) (n := 2) (pc' := 87) (st' := [dz_I s1.2.1, .ref (c0 + 5)]) rfl rfl ?_
      refine wq_ia (j' := dz_c s1.2.1) (pc' := 88) rfl (ha_F_4 hc0) rfl k7.1 k7.2 rfl ?_
      refine wq_if (p := dz_c (Z12 c0 4 (dz_c s1.2.1)) ≤ 0) (tt := 132) (pc' := 91) rfl rfl (cz_le rfl) rfl (fun c13 => ?_) (fun c13 => ?_)
      · replace H := dz_it c13 H
        refine wq_inc (k := 4) (d := 1) (x := s1.2.1) (ls' := [some (.ref c0), some (.ref a1), some (.ref a2), some (dz_I s1.1), some (dz_I (s1.2.1 + 1)), some (dz_B q6), some (dz_I (s1.2.2 c0 11 (dz_c s1.2.1))), some (dz_I q9.1)]) (pc' := 135) rfl rfl rfl rfl ?_
        refine wp_s (i := .goto (-130)) (n := 3) (pc' := 5) (st' := []) rfl rfl ?_
        replace H := dz_back H
        exact H (some (bif q6 then 1 else 0)) (some (Int32.ofInt (s1.2.2 c0 11 (dz_c s1.2.1)))) (some (Int32.ofInt q9.1))
      · replace H := dz_if c13 H
        refine wp_s (i := .aload_n 0) (n := 1) (pc' := 92) (st' := [.ref c0]) rfl rfl ?_
        refine wp_s (i := .dup) (n := 1) (pc' := 93) (st' := [.ref c0, .ref c0]) rfl rfl ?_
        refine wq_gi (idx := 53) (pc' := 96) rfl rfl (ho_F hc0) rfl rfl ?_
        refine wp_s (i := .aload_n 0) (n := 1) (pc' := 97) (st' := [.ref c0, dz_I (Z12 c0 8 0), .ref c0]) rfl rfl ?_
        refine wq_gr (idx := 25) (a := c0 + 5) (pc' := 100) rfl rfl (ho_F hc0) rfl rfl ?_
        refine wp_s (i := .iload 4) (n := 2) (pc' := 102) (st' := [dz_I s1.2.1, .ref (c0 + 5), dz_I (Z12 c0 8 0), .ref c0]) rfl rfl ?_
        refine wq_ia (j' := dz_c s1.2.1) (pc' := 103) rfl (ha_F_4 hc0) rfl k7.1 k7.2 rfl ?_
        refine wq_2 (i := .iadd) (z := (Z12 c0 8 0) + (Z12 c0 4 (dz_c s1.2.1))) (pc' := 104) rfl rfl (op_add _ _) rfl ?_
        refine wq_pi (idx := 53) (x := (Z12 c0 8 0) + (Z12 c0 4 (dz_c s1.2.1))) (pc' := 107) rfl rfl rfl (ho_F hc0) rfl rfl rfl rfl (fun Z14 eZ14 => ?_)
        replace H := dz_le H Z14 eZ14
        clear eZ14
        refine wp_s (i := .aload_n 0) (n := 1) (pc' := 108) (st' := [.ref c0]) rfl rfl ?_
        refine wp_s (i := .dup) (n := 1) (pc' := 109) (st' := [.ref c0, .ref c0]) rfl rfl ?_
        refine wq_gi (idx := 56) (pc' := 112) rfl rfl (ho_F hc0) rfl rfl ?_
        refine wp_s (i := .iconst 1) (n := 1) (pc' := 113) (st' := [dz_I 1, dz_I (Z14 c0 9 0), .ref c0]) rfl rfl ?_
        refine wp_s (i := .iload 4) (n := 2) (pc' := 115) (st' := [dz_I s1.2.1, dz_I 1, dz_I (Z14 c0 9 0), .ref c0]) rfl rfl ?_
        refine wq_2 (i := .ishl) (z := dz_sl 1 s1.2.1) (pc' := 116) rfl rfl (op_shl _ _) rfl ?_
        refine wq_2 (i := .ior) (z := dz_or (Z14 c0 9 0) (dz_sl 1 s1.2.1)) (pc' := 117) rfl rfl (op_or _ _) rfl ?_
        refine wq_pi (idx := 56) (x := dz_or (Z14 c0 9 0) (dz_sl 1 s1.2.1)) (pc' := 120) rfl rfl rfl (ho_F hc0) rfl rfl rfl rfl (fun Z15 eZ15 => ?_)
        replace H := dz_le H Z15 eZ15
        clear eZ15
        refine wp_s (i := .iload_n 3) (n := 1) (pc' := 121) (st' := [dz_I s1.1]) rfl rfl ?_
        refine wp_s (i := .iconst 1) (n := 1) (pc' := 122) (st' := [dz_I 1, dz_I s1.1]) rfl rfl ?_
        refine wp_s (i := .aload_n 1) (n := 1) (pc' := 123) (st' := [.ref a1, dz_I 1, dz_I s1.1]) rfl rfl ?_
        refine wq_gr (idx := 127) (a := a1 + 5) (pc' := 126) rfl rfl (ho_P ha1) rfl rfl ?_
        refine wp_s (i := .iload 4) (n := 2) (pc' := 128) (st' := [dz_I s1.2.1, .ref (a1 + 5), dz_I 1, dz_I s1.1]) rfl rfl ?_
        refine wq_ia (j' := dz_c s1.2.1) (pc' := 129) rfl (ha_P_7 ha1) rfl k7.1 k7.2 rfl ?_
        refine wq_2 (i := .ishl) (z := dz_sl 1 (Z15 a1 7 (dz_c s1.2.1))) (pc' := 130) rfl rfl (op_shl _ _) rfl ?_
        refine wq_2 (i := .ior) (z := dz_or s1.1 (dz_sl 1 (Z15 a1 7 (dz_c s1.2.1)))) (pc' := 131) rfl rfl (op_or _ _) rfl ?_
        refine wq_st (k := 3) (i := .istore_n 3) (n := 1) (ls' := [some (.ref c0), some (.ref a1), some (.ref a2), some (dz_I (dz_or s1.1 (dz_sl 1 (Z15 a1 7 (dz_c s1.2.1))))), some (dz_I s1.2.1), some (dz_B q6), some (dz_I (s1.2.2 c0 11 (dz_c s1.2.1))), some (dz_I q9.1)]) (pc' := 132) rfl rfl rfl rfl rfl ?_
        refine wq_inc (k := 4) (d := 1) (x := s1.2.1) (ls' := [some (.ref c0), some (.ref a1), some (.ref a2), some (dz_I (dz_or s1.1 (dz_sl 1 (Z15 a1 7 (dz_c s1.2.1))))), some (dz_I (s1.2.1 + 1)), some (dz_B q6), some (dz_I (s1.2.2 c0 11 (dz_c s1.2.1))), some (dz_I q9.1)]) (pc' := 135) rfl rfl rfl rfl ?_
        refine wp_s (i := .goto (-130)) (n := 3) (pc' := 5) (st' := []) rfl rfl ?_
        replace H := dz_back H
        exact H (some (bif q6 then 1 else 0)) (some (Int32.ofInt (s1.2.2 c0 11 (dz_c s1.2.1)))) (some (Int32.ofInt q9.1))
    · skip
      refine wq_if (p := q6 = false) (tt := 78) (pc' := 74) rfl rfl (cb_eq) rfl (fun c16 => ?_) (fun c16 => ?_)
      · replace H := dz_it c16 H
        refine wp_s (i := .iload 7) (n := 2) (pc' := 80) (st' := [dz_I q9.1, dz_I s1.2.1, .ref (c0 + 5)]) rfl rfl ?_
        replace H := dz_sm H
        exact H
      · replace H := dz_if c16 H
        refine wp_s (i := .iconst 0) (n := 1) (pc' := 75) (st' := [dz_I 0, dz_I s1.2.1, .ref (c0 + 5)]) rfl rfl ?_
        refine wp_s (i := .goto 5) (n := 3) (pc' := 80) (st' := [dz_I 0, dz_I s1.2.1, .ref (c0 + 5)]) rfl rfl ?_
        replace H := dz_sm H
        exact H
-- 12
def jf_F_passSecond (c0 : Nat) (a1 : Nat) (a2 : Nat) (a3 : Int) (Z : dz_Z) : Option (Int × dz_Z) := dz_a (dz_f Z c0 11 (Z c0 3)) fun Z1 => dz_a (dz_f Z1 c0 3 (fun _ => 0)) fun Z2 => dz_a (dz_f Z2 c0 10 (fun _ => 0)) fun Z3 => Option.bind (jf_F_fallOnRoofs c0 a1 a3 Z3) fun q4 => Option.bind (jf_F_runThroughGutters c0 a1 a2 q4) fun q5 => Option.bind (jf_F_fillCups c0 a1 a2 q5) fun q6 => dz_a (dz_u q6.2 c0 5 0 ((q6.2 c0 5 0) + 1)) fun Z7 => some (q6.1, Z7)
set_option maxRecDepth 20000 in
theorem jw_F_passSecond {X : Option (List Int32)} {D : Nat} {Q : Option Value → mm_H → Prop} (c0 : Nat) (hc0 : hz_isF c0) (a1 : Nat) (ha1 : hz_isP a1) (a2 : Nat) (ha2 : hz_isS a2) (a3 : Int) (Z : dz_Z) (H : dz_p (jf_F_passSecond c0 a1 a2 a3 Z) (fun q => Q (some (dz_I q.1)) (hz_0 q.2))) : mm_Wp X (D + 3) mm_r12 0 [some (.ref c0), some (.ref a1), some (.ref a2), some (dz_I a3), none] [] (hz_0 Z) Q := by
  unfold jf_F_passSecond at H
  refine wp_s (i := .aload_n 0) (n := 1) (pc' := 1) (st' := [.ref c0]) rfl rfl ?_
  refine wq_gr (idx := 22) (a := c0 + 4) (pc' := 4) rfl rfl (ho_F hc0) rfl rfl ?_
  refine wp_s (i := .iconst 0) (n := 1) (pc' := 5) (st' := [dz_I 0, .ref (c0 + 4)]) rfl rfl ?_
  refine wp_s (i := .aload_n 0) (n := 1) (pc' := 6) (st' := [.ref c0, dz_I 0, .ref (c0 + 4)]) rfl rfl ?_
  refine wq_gr (idx := 31) (a := c0 + 7) (pc' := 9) rfl rfl (ho_F hc0) rfl rfl ?_
  refine wp_s (i := .iconst 0) (n := 1) (pc' := 10) (st' := [dz_I 0, .ref (c0 + 7), dz_I 0, .ref (c0 + 4)]) rfl rfl ?_
  refine wp_s (i := .bipush 8) (n := 2) (pc' := 12) (st' := [dz_I 8, dz_I 0, .ref (c0 + 7), dz_I 0, .ref (c0 + 4)]) rfl rfl ?_
  refine wq_cp (Dp := (D + 2)) (n := 8) (tag := 0) (pc' := 15) rfl rfl (by decide) (ha_F_3 hc0) (ha_F_11 hc0) dk_8 rfl rfl (fun Z1 eZ1 => ?_)
  replace H := dz_le H Z1 eZ1
  clear eZ1
  refine wp_s (i := .aload_n 0) (n := 1) (pc' := 16) (st' := [.ref c0]) rfl rfl ?_
  refine wq_gr (idx := 22) (a := c0 + 4) (pc' := 19) rfl rfl (ho_F hc0) rfl rfl ?_
  refine wp_s (i := .iconst 0) (n := 1) (pc' := 20) (st' := [dz_I 0, .ref (c0 + 4)]) rfl rfl ?_
  refine wq_cs (Dq := (D + 2)) (r' := mm_r200) (as0 := [.ref (c0 + 4), dz_I 0]) (rest := []) (ls' := [some (.ref (c0 + 4)), some (dz_I 0), none, none]) (pc' := 23) rfl rfl (by decide) rfl rfl rfl rfl rfl ?_
  refine jw_fillI (ha_F_3 hc0) (by decide) (fun Z2 eZ2 => ?_)
  replace H := dz_le H Z2 eZ2
  clear eZ2
  show mm_Wp X (D + 3) mm_r12 23 [some (.ref c0), some (.ref a1), some (.ref a2), some (dz_I a3), none] [] (hz_0 Z2) Q
  refine wp_s (i := .aload_n 0) (n := 1) (pc' := 24) (st' := [.ref c0]) rfl rfl ?_
  refine wq_gr (idx := 28) (a := c0 + 6) (pc' := 27) rfl rfl (ho_F hc0) rfl rfl ?_
  refine wp_s (i := .iconst 0) (n := 1) (pc' := 28) (st' := [dz_I 0, .ref (c0 + 6)]) rfl rfl ?_
  refine wq_cs (Dq := (D + 2)) (r' := mm_r200) (as0 := [.ref (c0 + 6), dz_I 0]) (rest := []) (ls' := [some (.ref (c0 + 6)), some (dz_I 0), none, none]) (pc' := 31) rfl rfl (by decide) rfl rfl rfl rfl rfl ?_
  refine jw_fillI (ha_F_10 hc0) (by decide) (fun Z3 eZ3 => ?_)
  replace H := dz_le H Z3 eZ3
  clear eZ3
  show mm_Wp X (D + 3) mm_r12 31 [some (.ref c0), some (.ref a1), some (.ref a2), some (dz_I a3), none] [] (hz_0 Z3) Q
  refine wp_s (i := .aload_n 0) (n := 1) (pc' := 32) (st' := [.ref c0]) rfl rfl ?_
  refine wp_s (i := .aload_n 1) (n := 1) (pc' := 33) (st' := [.ref a1, .ref c0]) rfl rfl ?_
  refine wp_s (i := .iload_n 3) (n := 1) (pc' := 34) (st' := [dz_I a3, .ref a1, .ref c0]) rfl rfl ?_
  refine wq_cv (Dq := (D + 2)) (r' := mm_r13) (as0 := [.ref a1, dz_I a3]) (rest := []) (ls' := [some (.ref c0), some (.ref a1), some (dz_I a3), none, none]) (pc' := 37) rfl rfl rfl rfl (ho_F hc0) rfl rfl rfl ?_
  refine jw_F_fallOnRoofs (X := X) (D := D + 1) c0 hc0 a1 ha1 a3 Z3 (dz_pm (dz_bi H) (fun q4 H => ?_))
  show mm_Wp X (D + 3) mm_r12 37 [some (.ref c0), some (.ref a1), some (.ref a2), some (dz_I a3), none] [] (hz_0 q4) Q
  refine wp_s (i := .aload_n 0) (n := 1) (pc' := 38) (st' := [.ref c0]) rfl rfl ?_
  refine wp_s (i := .aload_n 1) (n := 1) (pc' := 39) (st' := [.ref a1, .ref c0]) rfl rfl ?_
  refine wp_s (i := .aload_n 2) (n := 1) (pc' := 40) (st' := [.ref a2, .ref a1, .ref c0]) rfl rfl ?_
  refine wq_cv (Dq := (D + 2)) (r' := mm_r14) (as0 := [.ref a1, .ref a2]) (rest := []) (ls' := [some (.ref c0), some (.ref a1), some (.ref a2), none, none, none]) (pc' := 43) rfl rfl rfl rfl (ho_F hc0) rfl rfl rfl ?_
  refine jw_F_runThroughGutters (X := X) (D := D + 1) c0 hc0 a1 ha1 a2 ha2 q4 (dz_pm (dz_bi H) (fun q5 H => ?_))
  show mm_Wp X (D + 3) mm_r12 43 [some (.ref c0), some (.ref a1), some (.ref a2), some (dz_I a3), none] [] (hz_0 q5) Q
  refine wp_s (i := .aload_n 0) (n := 1) (pc' := 44) (st' := [.ref c0]) rfl rfl ?_
  refine wp_s (i := .aload_n 1) (n := 1) (pc' := 45) (st' := [.ref a1, .ref c0]) rfl rfl ?_
  refine wp_s (i := .aload_n 2) (n := 1) (pc' := 46) (st' := [.ref a2, .ref a1, .ref c0]) rfl rfl ?_
  refine wq_cv (Dq := (D + 2)) (r' := mm_r17) (as0 := [.ref a1, .ref a2]) (rest := []) (ls' := [some (.ref c0), some (.ref a1), some (.ref a2), none, none, none, none, none]) (pc' := 49) rfl rfl rfl rfl (ho_F hc0) rfl rfl rfl ?_
  refine jw_F_fillCups (X := X) (D := D + 0) c0 hc0 a1 ha1 a2 ha2 q5 (dz_pm (dz_bi H) (fun q6 H => ?_))
  show mm_Wp X (D + 3) mm_r12 49 [some (.ref c0), some (.ref a1), some (.ref a2), some (dz_I a3), none] [dz_I q6.1] (hz_0 q6.2) Q
  refine wq_st (k := 4) (i := .istore 4) (n := 2) (ls' := [some (.ref c0), some (.ref a1), some (.ref a2), some (dz_I a3), some (dz_I q6.1)]) (pc' := 51) rfl rfl rfl rfl rfl ?_
  refine wp_s (i := .aload_n 0) (n := 1) (pc' := 52) (st' := [.ref c0]) rfl rfl ?_
  refine wp_s (i := .dup) (n := 1) (pc' := 53) (st' := [.ref c0, .ref c0]) rfl rfl ?_
  refine wq_gi (idx := 43) (pc' := 56) rfl rfl (ho_F hc0) rfl rfl ?_
  refine wp_s (i := .iconst 1) (n := 1) (pc' := 57) (st' := [dz_I 1, dz_I (q6.2 c0 5 0), .ref c0]) rfl rfl ?_
  refine wq_2 (i := .iadd) (z := (q6.2 c0 5 0) + 1) (pc' := 58) rfl rfl (op_add _ _) rfl ?_
  refine wq_pi (idx := 43) (x := (q6.2 c0 5 0) + 1) (pc' := 61) rfl rfl rfl (ho_F hc0) rfl rfl rfl rfl (fun Z7 eZ7 => ?_)
  replace H := dz_le H Z7 eZ7
  clear eZ7
  refine wp_s (i := .iload 4) (n := 2) (pc' := 63) (st' := [dz_I q6.1]) rfl rfl ?_
  refine wq_ri rfl rfl ?_
  replace H := dz_sm H
  exact H
-- 5
def jf_C_perform (a1 : Nat) (a2 : Nat) (a3 : Int) (Z : dz_Z) : Option (dz_Z) := Option.bind (jf_F_dryUp 55 Z) fun q1 => if 0 ≤ dz_c a3 ∧ dz_c a3 < 3 then dz_a (dz_u q1 54 3 0 (q1 a2 3 (dz_c a3))) fun Z3 => dz_lp (fun (s4 : Int × dz_Z) => if dz_c (s4.2 54 3 0) ≤ dz_c s4.1 then (some (Sum.inr s4.2)) else (if 0 ≤ dz_c s4.1 ∧ dz_c s4.1 < 12 then Option.bind (jf_F_passSecond 55 a1 a2 (s4.2 a2 (20 + Int.toNat (dz_c a3)) (dz_c s4.1)) s4.2) fun q8 => dz_a (dz_u q8.2 54 1 (dz_c s4.1) q8.1) fun Z9 => dz_a (dz_u Z9 54 2 (dz_c s4.1) ((Z9 55 8 0) - (s4.2 55 8 0))) fun Z10 => some (Sum.inl (s4.1 + 1, Z10)) else none)) 5000 (0, Z3) else none
set_option maxRecDepth 20000 in
theorem jw_C_perform {X : Option (List Int32)} {D : Nat} {Q : Option Value → mm_H → Prop} (a1 : Nat) (ha1 : hz_isP a1) (a2 : Nat) (ha2 : hz_isS a2) (a3 : Int) (Z : dz_Z) (H : dz_p (jf_C_perform a1 a2 a3 Z) (fun q => Q (none) (hz_0 q))) : mm_Wp X (D + 4) mm_r5 0 [some (.ref 54), some (.ref a1), some (.ref a2), some (dz_I a3), none, none] [] (hz_0 Z) Q := by
  unfold jf_C_perform at H
  refine wp_s (i := .aload_n 0) (n := 1) (pc' := 1) (st' := [.ref 54]) rfl rfl ?_
  refine wq_gr (idx := 12) (a := 55) (pc' := 4) rfl rfl ho_C rfl rfl ?_
  refine wq_cv (Dq := (D + 3)) (r' := mm_r10) (as0 := []) (rest := []) (ls' := [some (.ref 55)]) (pc' := 7) rfl rfl rfl rfl (ho_F (Or.inr (Or.inl rfl))) rfl rfl rfl ?_
  refine jw_F_dryUp (X := X) (D := D + 2) 55 (Or.inr (Or.inl rfl)) Z (dz_pm (dz_bi H) (fun q1 H => ?_))
  show mm_Wp X (D + 4) mm_r5 7 [some (.ref 54), some (.ref a1), some (.ref a2), some (dz_I a3), none, none] [] (hz_0 q1) Q
  refine wp_s (i := .aload_n 0) (n := 1) (pc' := 8) (st' := [.ref 54]) rfl rfl ?_
  refine wp_s (i := .aload_n 2) (n := 1) (pc' := 9) (st' := [.ref a2, .ref 54]) rfl rfl ?_
  refine wq_gr (idx := 28) (a := a2 + 4) (pc' := 12) rfl rfl (ho_S ha2) rfl rfl ?_
  refine wp_s (i := .iload_n 3) (n := 1) (pc' := 13) (st' := [dz_I a3, .ref (a2 + 4), .ref 54]) rfl rfl ?_
  obtain ⟨k2, H⟩ := dz_ck H
  refine wq_ia (j' := dz_c a3) (pc' := 14) rfl (ha_S_3 ha2) rfl k2.1 k2.2 rfl ?_
  refine wq_pi (idx := 33) (x := q1 a2 3 (dz_c a3)) (pc' := 17) rfl rfl rfl ho_C rfl rfl rfl rfl (fun Z3 eZ3 => ?_)
  replace H := dz_le H Z3 eZ3
  clear eZ3
  refine wp_s (i := .iconst 0) (n := 1) (pc' := 18) (st' := [dz_I 0]) rfl rfl ?_
  refine wq_st (k := 4) (i := .istore 4) (n := 2) (ls' := [some (.ref 54), some (.ref a1), some (.ref a2), some (dz_I a3), some (dz_I 0), none]) (pc' := 20) rfl rfl rfl rfl rfl ?_
  refine dz_lpi (P := fun (s4 : Int × dz_Z) => ∀ (u5 : Option Int32), mm_Wp X (D + 4) mm_r5 20 [some (.ref 54), some (.ref a1), some (.ref a2), some (dz_I a3), some (dz_I s4.1), Option.map Value.int u5] [] (hz_0 s4.2) Q) (fun s4 H => ?_) 5000 (0, Z3) H none
  intro u5
  refine wp_s (i := .iload 4) (n := 2) (pc' := 22) (st' := [dz_I s4.1]) rfl rfl ?_
  refine wp_s (i := .aload_n 0) (n := 1) (pc' := 23) (st' := [.ref 54, dz_I s4.1]) rfl rfl ?_
  refine wq_gi (idx := 33) (pc' := 26) rfl rfl ho_C rfl rfl ?_
  refine wq_ic (p := dz_c (s4.2 54 3 0) ≤ dz_c s4.1) (tt := 86) (pc' := 29) rfl rfl (cq_ge rfl rfl) rfl (fun c6 => ?_) (fun c6 => ?_)
  · replace H := dz_it c6 H
    refine wq_rv rfl rfl ?_
    replace H := dz_out H
    replace H := dz_sm H
    exact H
  · replace H := dz_if c6 H
    refine wp_s (i := .aload_n 0) (n := 1) (pc' := 30) (st' := [.ref 54]) rfl rfl ?_
    refine wq_gr (idx := 12) (a := 55) (pc' := 33) rfl rfl ho_C rfl rfl ?_
    refine wq_gi (idx := 37) (pc' := 36) rfl rfl (ho_F (Or.inr (Or.inl rfl))) rfl rfl ?_
    refine wq_st (k := 5) (i := .istore 5) (n := 2) (ls' := [some (.ref 54), some (.ref a1), some (.ref a2), some (dz_I a3), some (dz_I s4.1), some (dz_I (s4.2 55 8 0))]) (pc' := 38) rfl rfl rfl rfl rfl ?_
    refine wp_s (i := .aload_n 0) (n := 1) (pc' := 39) (st' := [.ref 54]) rfl rfl ?_
    refine wq_gr (idx := 18) (a := 63) (pc' := 42) rfl rfl ho_C rfl rfl ?_
    refine wp_s (i := .iload 4) (n := 2) (pc' := 44) (st' := [dz_I s4.1, .ref 63]) rfl rfl ?_
    refine wp_s (i := .aload_n 0) (n := 1) (pc' := 45) (st' := [.ref 54, dz_I s4.1, .ref 63]) rfl rfl ?_
    refine wq_gr (idx := 12) (a := 55) (pc' := 48) rfl rfl ho_C rfl rfl ?_
    refine wp_s (i := .aload_n 1) (n := 1) (pc' := 49) (st' := [.ref a1, .ref 55, dz_I s4.1, .ref 63]) rfl rfl ?_
    refine wp_s (i := .aload_n 2) (n := 1) (pc' := 50) (st' := [.ref a2, .ref a1, .ref 55, dz_I s4.1, .ref 63]) rfl rfl ?_
    refine wp_s (i := .aload_n 2) (n := 1) (pc' := 51) (st' := [.ref a2, .ref a2, .ref a1, .ref 55, dz_I s4.1, .ref 63]) rfl rfl ?_
    refine wq_gr (idx := 40) (a := a2 + 5) (pc' := 54) rfl rfl (ho_S ha2) rfl rfl ?_
    refine wp_s (i := .iload_n 3) (n := 1) (pc' := 55) (st' := [dz_I a3, .ref (a2 + 5), .ref a2, .ref a1, .ref 55, dz_I s4.1, .ref 63]) rfl rfl ?_
    refine wq_aa (j' := dz_c a3) (a := a2 + 6 + Int.toNat (dz_c a3)) (pc' := 56) rfl (by decide) (ha_S_4 ha2) rfl k2.1 k2.2 (hr_S k2.1 k2.2) rfl ?_
    refine wp_s (i := .iload 4) (n := 2) (pc' := 58) (st' := [dz_I s4.1, .ref (a2 + 6 + Int.toNat (dz_c a3)), .ref a2, .ref a1, .ref 55, dz_I s4.1, .ref 63]) rfl rfl ?_
    obtain ⟨k7, H⟩ := dz_ck H
    refine wq_ia (j' := dz_c s4.1) (pc' := 59) rfl (ha_Sr ha2 k2.1 k2.2) rfl k7.1 k7.2 rfl ?_
    refine wq_cv (Dq := (D + 3)) (r' := mm_r12) (as0 := [.ref a1, .ref a2, dz_I (s4.2 a2 (20 + Int.toNat (dz_c a3)) (dz_c s4.1))]) (rest := [dz_I s4.1, .ref 63]) (ls' := [some (.ref 55), some (.ref a1), some (.ref a2), some (dz_I (s4.2 a2 (20 + Int.toNat (dz_c a3)) (dz_c s4.1))), none]) (pc' := 62) rfl rfl rfl rfl (ho_F (Or.inr (Or.inl rfl))) rfl rfl rfl ?_
    refine jw_F_passSecond (X := X) (D := D + 0) 55 (Or.inr (Or.inl rfl)) a1 ha1 a2 ha2 (s4.2 a2 (20 + Int.toNat (dz_c a3)) (dz_c s4.1)) s4.2 (dz_pm (dz_bi H) (fun q8 H => ?_))
    show mm_Wp X (D + 4) mm_r5 62 [some (.ref 54), some (.ref a1), some (.ref a2), some (dz_I a3), some (dz_I s4.1), some (dz_I (s4.2 55 8 0))] [dz_I q8.1, dz_I s4.1, .ref 63] (hz_0 q8.2) Q
    refine wq_is (j' := dz_c s4.1) (x := q8.1) (pc' := 63) rfl ha_C_1 rfl k7.1 k7.2 rfl (fun Z9 eZ9 => ?_)
    replace H := dz_le H Z9 eZ9
    clear eZ9
    refine wp_s (i := .aload_n 0) (n := 1) (pc' := 64) (st' := [.ref 54]) rfl rfl ?_
    refine wq_gr (idx := 22) (a := 64) (pc' := 67) rfl rfl ho_C rfl rfl ?_
    refine wp_s (i := .iload 4) (n := 2) (pc' := 69) (st' := [dz_I s4.1, .ref 64]) rfl rfl ?_
    refine wp_s (i := .aload_n 0) (n := 1) (pc' := 70) (st' := [.ref 54, dz_I s4.1, .ref 64]) rfl rfl ?_
    refine wq_gr (idx := 12) (a := 55) (pc' := 73) rfl rfl ho_C rfl rfl ?_
    refine wq_gi (idx := 37) (pc' := 76) rfl rfl (ho_F (Or.inr (Or.inl rfl))) rfl rfl ?_
    refine wp_s (i := .iload 5) (n := 2) (pc' := 78) (st' := [dz_I (s4.2 55 8 0), dz_I (Z9 55 8 0), dz_I s4.1, .ref 64]) rfl rfl ?_
    refine wq_2 (i := .isub) (z := (Z9 55 8 0) - (s4.2 55 8 0)) (pc' := 79) rfl rfl (op_sub _ _) rfl ?_
    refine wq_is (j' := dz_c s4.1) (x := (Z9 55 8 0) - (s4.2 55 8 0)) (pc' := 80) rfl ha_C_2 rfl k7.1 k7.2 rfl (fun Z10 eZ10 => ?_)
    replace H := dz_le H Z10 eZ10
    clear eZ10
    refine wq_inc (k := 4) (d := 1) (x := s4.1) (ls' := [some (.ref 54), some (.ref a1), some (.ref a2), some (dz_I a3), some (dz_I (s4.1 + 1)), some (dz_I (s4.2 55 8 0))]) (pc' := 83) rfl rfl rfl rfl ?_
    refine wp_s (i := .goto (-63)) (n := 3) (pc' := 20) (st' := []) rfl rfl ?_
    replace H := dz_back H
    exact H (some (Int32.ofInt (s4.2 55 8 0)))
-- 192
def jf_J_bitCount (a1 : Int) : Option (Int) := dz_a ((dz_an (a1 - (dz_an (dz_ur a1 1) 1431655765)) 858993459) + (dz_an (dz_ur (a1 - (dz_an (dz_ur a1 1) 1431655765)) 2) 858993459)) fun x1 => dz_a ((dz_an (x1 + (dz_ur x1 4)) 252645135) + (dz_ur (dz_an (x1 + (dz_ur x1 4)) 252645135) 8)) fun x2 => some (dz_an (x2 + (dz_ur x2 16)) 63)
set_option maxRecDepth 20000 in
theorem jw_J_bitCount {X : Option (List Int32)} {D : Nat} {Q : Option Value → mm_H → Prop} (a1 : Int) (Z : dz_Z) (H : dz_p (jf_J_bitCount a1) (fun q => Q (some (dz_I q)) (hz_0 Z))) : mm_Wp X D mm_r192 0 [some (dz_I a1)] [] (hz_0 Z) Q := by
  unfold jf_J_bitCount at H
  refine wp_s (i := .iload_n 0) (n := 1) (pc' := 1) (st' := [dz_I a1]) rfl rfl ?_
  refine wp_s (i := .iload_n 0) (n := 1) (pc' := 2) (st' := [dz_I a1, dz_I a1]) rfl rfl ?_
  refine wp_s (i := .iconst 1) (n := 1) (pc' := 3) (st' := [dz_I 1, dz_I a1, dz_I a1]) rfl rfl ?_
  refine wq_2 (i := .iushr) (z := dz_ur a1 1) (pc' := 4) rfl rfl (op_ushr _ _) rfl ?_
  refine wp_s (i := .ldc_w 265) (n := 3) (pc' := 7) (st' := [dz_I 1431655765, dz_I (dz_ur a1 1), dz_I a1]) rfl rfl ?_
  refine wq_2 (i := .iand) (z := dz_an (dz_ur a1 1) 1431655765) (pc' := 8) rfl rfl (op_and _ _) rfl ?_
  refine wq_2 (i := .isub) (z := a1 - (dz_an (dz_ur a1 1) 1431655765)) (pc' := 9) rfl rfl (op_sub _ _) rfl ?_
  refine wq_st (k := 0) (i := .istore_n 0) (n := 1) (ls' := [some (dz_I (a1 - (dz_an (dz_ur a1 1) 1431655765)))]) (pc' := 10) rfl rfl rfl rfl rfl ?_
  refine wp_s (i := .iload_n 0) (n := 1) (pc' := 11) (st' := [dz_I (a1 - (dz_an (dz_ur a1 1) 1431655765))]) rfl rfl ?_
  refine wp_s (i := .ldc_w 266) (n := 3) (pc' := 14) (st' := [dz_I 858993459, dz_I (a1 - (dz_an (dz_ur a1 1) 1431655765))]) rfl rfl ?_
  refine wq_2 (i := .iand) (z := dz_an (a1 - (dz_an (dz_ur a1 1) 1431655765)) 858993459) (pc' := 15) rfl rfl (op_and _ _) rfl ?_
  refine wp_s (i := .iload_n 0) (n := 1) (pc' := 16) (st' := [dz_I (a1 - (dz_an (dz_ur a1 1) 1431655765)), dz_I (dz_an (a1 - (dz_an (dz_ur a1 1) 1431655765)) 858993459)]) rfl rfl ?_
  refine wp_s (i := .iconst 2) (n := 1) (pc' := 17) (st' := [dz_I 2, dz_I (a1 - (dz_an (dz_ur a1 1) 1431655765)), dz_I (dz_an (a1 - (dz_an (dz_ur a1 1) 1431655765)) 858993459)]) rfl rfl ?_
  refine wq_2 (i := .iushr) (z := dz_ur (a1 - (dz_an (dz_ur a1 1) 1431655765)) 2) (pc' := 18) rfl rfl (op_ushr _ _) rfl ?_
  refine wp_s (i := .ldc_w 266) (n := 3) (pc' := 21) (st' := [dz_I 858993459, dz_I (dz_ur (a1 - (dz_an (dz_ur a1 1) 1431655765)) 2), dz_I (dz_an (a1 - (dz_an (dz_ur a1 1) 1431655765)) 858993459)]) rfl rfl ?_
  refine wq_2 (i := .iand) (z := dz_an (dz_ur (a1 - (dz_an (dz_ur a1 1) 1431655765)) 2) 858993459) (pc' := 22) rfl rfl (op_and _ _) rfl ?_
  refine wq_2 (i := .iadd) (z := (dz_an (a1 - (dz_an (dz_ur a1 1) 1431655765)) 858993459) + (dz_an (dz_ur (a1 - (dz_an (dz_ur a1 1) 1431655765)) 2) 858993459)) (pc' := 23) rfl rfl (op_add _ _) rfl ?_
  refine wq_sa (k := 0) (F := fun x1 => [some (dz_I x1)]) (i := .istore_n 0) (n := 1) (pc' := 24) rfl rfl (fun _ => rfl) (fun _ => rfl) rfl (fun x1 ex1 => ?_)
  show mm_Wp _ _ _ 24 [some (dz_I x1)] [] _ _
  replace H := dz_le H x1 ex1
  clear ex1
  refine wp_s (i := .iload_n 0) (n := 1) (pc' := 25) (st' := [dz_I x1]) rfl rfl ?_
  refine wp_s (i := .iload_n 0) (n := 1) (pc' := 26) (st' := [dz_I x1, dz_I x1]) rfl rfl ?_
  refine wp_s (i := .iconst 4) (n := 1) (pc' := 27) (st' := [dz_I 4, dz_I x1, dz_I x1]) rfl rfl ?_
  refine wq_2 (i := .iushr) (z := dz_ur x1 4) (pc' := 28) rfl rfl (op_ushr _ _) rfl ?_
  refine wq_2 (i := .iadd) (z := x1 + (dz_ur x1 4)) (pc' := 29) rfl rfl (op_add _ _) rfl ?_
  refine wp_s (i := .ldc_w 267) (n := 3) (pc' := 32) (st' := [dz_I 252645135, dz_I (x1 + (dz_ur x1 4))]) rfl rfl ?_
  refine wq_2 (i := .iand) (z := dz_an (x1 + (dz_ur x1 4)) 252645135) (pc' := 33) rfl rfl (op_and _ _) rfl ?_
  refine wq_st (k := 0) (i := .istore_n 0) (n := 1) (ls' := [some (dz_I (dz_an (x1 + (dz_ur x1 4)) 252645135))]) (pc' := 34) rfl rfl rfl rfl rfl ?_
  refine wp_s (i := .iload_n 0) (n := 1) (pc' := 35) (st' := [dz_I (dz_an (x1 + (dz_ur x1 4)) 252645135)]) rfl rfl ?_
  refine wp_s (i := .iload_n 0) (n := 1) (pc' := 36) (st' := [dz_I (dz_an (x1 + (dz_ur x1 4)) 252645135), dz_I (dz_an (x1 + (dz_ur x1 4)) 252645135)]) rfl rfl ?_
  refine wp_s (i := .bipush 8) (n := 2) (pc' := 38) (st' := [dz_I 8, dz_I (dz_an (x1 + (dz_ur x1 4)) 252645135), dz_I (dz_an (x1 + (dz_ur x1 4)) 252645135)]) rfl rfl ?_
  refine wq_2 (i := .iushr) (z := dz_ur (dz_an (x1 + (dz_ur x1 4)) 252645135) 8) (pc' := 39) rfl rfl (op_ushr _ _) rfl ?_
  refine wq_2 (i := .iadd) (z := (dz_an (x1 + (dz_ur x1 4)) 252645135) + (dz_ur (dz_an (x1 + (dz_ur x1 4)) 252645135) 8)) (pc' := 40) rfl rfl (op_add _ _) rfl ?_
  refine wq_sa (k := 0) (F := fun x2 => [some (dz_I x2)]) (i := .istore_n 0) (n := 1) (pc' := 41) rfl rfl (fun _ => rfl) (fun _ => rfl) rfl (fun x2 ex2 => ?_)
  show mm_Wp _ _ _ 41 [some (dz_I x2)] [] _ _
  replace H := dz_le H x2 ex2
  clear ex2
  refine wp_s (i := .iload_n 0) (n := 1) (pc' := 42) (st' := [dz_I x2]) rfl rfl ?_
  refine wp_s (i := .iload_n 0) (n := 1) (pc' := 43) (st' := [dz_I x2, dz_I x2]) rfl rfl ?_
  refine wp_s (i := .bipush 16) (n := 2) (pc' := 45) (st' := [dz_I 16, dz_I x2, dz_I x2]) rfl rfl ?_
  refine wq_2 (i := .iushr) (z := dz_ur x2 16) (pc' := 46) rfl rfl (op_ushr _ _) rfl ?_
  refine wq_2 (i := .iadd) (z := x2 + (dz_ur x2 16)) (pc' := 47) rfl rfl (op_add _ _) rfl ?_
  refine wq_st (k := 0) (i := .istore_n 0) (n := 1) (ls' := [some (dz_I (x2 + (dz_ur x2 16)))]) (pc' := 48) rfl rfl rfl rfl rfl ?_
  refine wp_s (i := .iload_n 0) (n := 1) (pc' := 49) (st' := [dz_I (x2 + (dz_ur x2 16))]) rfl rfl ?_
  refine wp_s (i := .bipush 63) (n := 2) (pc' := 51) (st' := [dz_I 63, dz_I (x2 + (dz_ur x2 16))]) rfl rfl ?_
  refine wq_2 (i := .iand) (z := dz_an (x2 + (dz_ur x2 16)) 63) (pc' := 52) rfl rfl (op_and _ _) rfl ?_
  refine wq_ri rfl rfl ?_
  replace H := dz_sm H
  exact H
-- 6
def jf_C_farFromTune (a1 : Nat) (Z : dz_Z) : Option (Int) := dz_lp (fun (s1 : Int × Int) => if 12 ≤ dz_c s1.2 then (some (Sum.inr s1.1)) else (Option.bind (α := Int) (if dz_c (Z 54 3 0) ≤ dz_c s1.2 then (some 0) else (if 0 ≤ dz_c s1.2 ∧ dz_c s1.2 < 12 then some (Z 54 1 (dz_c s1.2)) else none)) (fun (q7 : Int) => Option.bind (α := Int) (if dz_c (Z a1 6 0) ≤ dz_c s1.2 then (some 0) else (if 0 ≤ dz_c s1.2 ∧ dz_c s1.2 < 12 then some (Z a1 5 (dz_c s1.2)) else none)) (fun (q10 : Int) => Option.bind (jf_J_bitCount (dz_xo q7 q10)) fun q11 => some (Sum.inl (s1.1 + q11, s1.2 + 1)))))) 5000 (0, 0)
set_option maxRecDepth 20000 in
theorem jw_C_farFromTune {X : Option (List Int32)} {D : Nat} {Q : Option Value → mm_H → Prop} (a1 : Nat) (ha1 : hz_isS a1) (Z : dz_Z) (H : dz_p (jf_C_farFromTune a1 Z) (fun q => Q (some (dz_I q)) (hz_0 Z))) : mm_Wp X (D + 1) mm_r6 0 [some (.ref 54), some (.ref a1), none, none, none, none] [] (hz_0 Z) Q := by
  unfold jf_C_farFromTune at H
  refine wp_s (i := .iconst 0) (n := 1) (pc' := 1) (st' := [dz_I 0]) rfl rfl ?_
  refine wq_st (k := 2) (i := .istore_n 2) (n := 1) (ls' := [some (.ref 54), some (.ref a1), some (dz_I 0), none, none, none]) (pc' := 2) rfl rfl rfl rfl rfl ?_
  refine wp_s (i := .iconst 0) (n := 1) (pc' := 3) (st' := [dz_I 0]) rfl rfl ?_
  refine wq_st (k := 3) (i := .istore_n 3) (n := 1) (ls' := [some (.ref 54), some (.ref a1), some (dz_I 0), some (dz_I 0), none, none]) (pc' := 4) rfl rfl rfl rfl rfl ?_
  refine dz_lpi (P := fun (s1 : Int × Int) => ∀ (u2 u3 : Option Int32), mm_Wp X (D + 1) mm_r6 4 [some (.ref 54), some (.ref a1), some (dz_I s1.1), some (dz_I s1.2), Option.map Value.int u2, Option.map Value.int u3] [] (hz_0 Z) Q) (fun s1 H => ?_) 5000 (0, 0) H none none
  intro u2 u3
  refine wp_s (i := .iload_n 3) (n := 1) (pc' := 5) (st' := [dz_I s1.2]) rfl rfl ?_
  refine wp_s (i := .bipush 12) (n := 2) (pc' := 7) (st' := [dz_I 12, dz_I s1.2]) rfl rfl ?_
  refine wq_ic (p := 12 ≤ dz_c s1.2) (tt := 67) (pc' := 10) rfl rfl (cq_ge rfl dk_12) rfl (fun c4 => ?_) (fun c4 => ?_)
  · replace H := dz_it c4 H
    refine wp_s (i := .iload_n 2) (n := 1) (pc' := 68) (st' := [dz_I s1.1]) rfl rfl ?_
    refine wq_ri rfl rfl ?_
    replace H := dz_out H
    replace H := dz_sm H
    exact H
  · replace H := dz_if c4 H
    refine wp_s (i := .iload_n 3) (n := 1) (pc' := 11) (st' := [dz_I s1.2]) rfl rfl ?_
    refine wp_s (i := .aload_n 0) (n := 1) (pc' := 12) (st' := [.ref 54, dz_I s1.2]) rfl rfl ?_
    refine wq_gi (idx := 33) (pc' := 15) rfl rfl ho_C rfl rfl ?_
    refine dz_jn (P := fun (q7 : Int) => mm_Wp X (D + 1) mm_r6 28 [some (.ref 54), some (.ref a1), some (dz_I s1.1), some (dz_I s1.2), Option.map Value.int u2, Option.map Value.int u3] [dz_I q7] (hz_0 Z) Q) (dz_bi H) (fun q7 H => ?_) (fun H => ?_)
    · skip
      refine wq_st (k := 4) (i := .istore 4) (n := 2) (ls' := [some (.ref 54), some (.ref a1), some (dz_I s1.1), some (dz_I s1.2), some (dz_I q7), Option.map Value.int u3]) (pc' := 30) rfl rfl rfl rfl rfl ?_
      refine wp_s (i := .iload_n 3) (n := 1) (pc' := 31) (st' := [dz_I s1.2]) rfl rfl ?_
      refine wp_s (i := .aload_n 1) (n := 1) (pc' := 32) (st' := [.ref a1, dz_I s1.2]) rfl rfl ?_
      refine wq_gi (idx := 48) (pc' := 35) rfl rfl (ho_S ha1) rfl rfl ?_
      refine dz_jn (P := fun (q10 : Int) => mm_Wp X (D + 1) mm_r6 48 [some (.ref 54), some (.ref a1), some (dz_I s1.1), some (dz_I s1.2), some (dz_I q7), Option.map Value.int u3] [dz_I q10] (hz_0 Z) Q) (dz_bi H) (fun q10 H => ?_) (fun H => ?_)
      · skip
        refine wq_st (k := 5) (i := .istore 5) (n := 2) (ls' := [some (.ref 54), some (.ref a1), some (dz_I s1.1), some (dz_I s1.2), some (dz_I q7), some (dz_I q10)]) (pc' := 50) rfl rfl rfl rfl rfl ?_
        refine wp_s (i := .iload_n 2) (n := 1) (pc' := 51) (st' := [dz_I s1.1]) rfl rfl ?_
        refine wp_s (i := .iload 4) (n := 2) (pc' := 53) (st' := [dz_I q7, dz_I s1.1]) rfl rfl ?_
        refine wp_s (i := .iload 5) (n := 2) (pc' := 55) (st' := [dz_I q10, dz_I q7, dz_I s1.1]) rfl rfl ?_
        refine wq_2 (i := .ixor) (z := dz_xo q7 q10) (pc' := 56) rfl rfl (op_xor _ _) rfl ?_
        refine wq_cs (Dq := D) (r' := mm_r192) (as0 := [dz_I (dz_xo q7 q10)]) (rest := [dz_I s1.1]) (ls' := [some (dz_I (dz_xo q7 q10))]) (pc' := 59) rfl rfl (by decide) rfl rfl rfl rfl rfl ?_
        refine jw_J_bitCount (X := X) (D := D + 0) (dz_xo q7 q10) Z (dz_pm (dz_bi H) (fun q11 H => ?_))
        show mm_Wp X (D + 1) mm_r6 59 [some (.ref 54), some (.ref a1), some (dz_I s1.1), some (dz_I s1.2), some (dz_I q7), some (dz_I q10)] [dz_I q11, dz_I s1.1] (hz_0 Z) Q
        refine wq_2 (i := .iadd) (z := s1.1 + q11) (pc' := 60) rfl rfl (op_add _ _) rfl ?_
        refine wq_st (k := 2) (i := .istore_n 2) (n := 1) (ls' := [some (.ref 54), some (.ref a1), some (dz_I (s1.1 + q11)), some (dz_I s1.2), some (dz_I q7), some (dz_I q10)]) (pc' := 61) rfl rfl rfl rfl rfl ?_
        refine wq_inc (k := 3) (d := 1) (x := s1.2) (ls' := [some (.ref 54), some (.ref a1), some (dz_I (s1.1 + q11)), some (dz_I (s1.2 + 1)), some (dz_I q7), some (dz_I q10)]) (pc' := 64) rfl rfl rfl rfl ?_
        refine wp_s (i := .goto (-60)) (n := 3) (pc' := 4) (st' := []) rfl rfl ?_
        replace H := dz_back H
        exact H (some (Int32.ofInt q7)) (some (Int32.ofInt q10))
      · skip
        refine wq_ic (p := dz_c (Z a1 6 0) ≤ dz_c s1.2) (tt := 47) (pc' := 38) rfl rfl (cq_ge rfl rfl) rfl (fun c12 => ?_) (fun c12 => ?_)
        · replace H := dz_it c12 H
          refine wp_s (i := .iconst 0) (n := 1) (pc' := 48) (st' := [dz_I 0]) rfl rfl ?_
          replace H := dz_sm H
          exact H
        · replace H := dz_if c12 H
          refine wp_s (i := .aload_n 1) (n := 1) (pc' := 39) (st' := [.ref a1]) rfl rfl ?_
          refine wq_gr (idx := 51) (a := a1 + 9) (pc' := 42) rfl rfl (ho_S ha1) rfl rfl ?_
          refine wp_s (i := .iload_n 3) (n := 1) (pc' := 43) (st' := [dz_I s1.2, .ref (a1 + 9)]) rfl rfl ?_
          obtain ⟨k13, H⟩ := dz_ck H
          refine wq_ia (j' := dz_c s1.2) (pc' := 44) rfl (ha_S_5 ha1) rfl k13.1 k13.2 rfl ?_
          refine wp_s (i := .goto 4) (n := 3) (pc' := 48) (st' := [dz_I (Z a1 5 (dz_c s1.2))]) rfl rfl ?_
          replace H := dz_sm H
          exact H
    · skip
      refine wq_ic (p := dz_c (Z 54 3 0) ≤ dz_c s1.2) (tt := 27) (pc' := 18) rfl rfl (cq_ge rfl rfl) rfl (fun c14 => ?_) (fun c14 => ?_)
      · replace H := dz_it c14 H
        refine wp_s (i := .iconst 0) (n := 1) (pc' := 28) (st' := [dz_I 0]) rfl rfl ?_
        replace H := dz_sm H
        exact H
      · replace H := dz_if c14 H
        refine wp_s (i := .aload_n 0) (n := 1) (pc' := 19) (st' := [.ref 54]) rfl rfl ?_
        refine wq_gr (idx := 18) (a := 63) (pc' := 22) rfl rfl ho_C rfl rfl ?_
        refine wp_s (i := .iload_n 3) (n := 1) (pc' := 23) (st' := [dz_I s1.2, .ref 63]) rfl rfl ?_
        obtain ⟨k15, H⟩ := dz_ck H
        refine wq_ia (j' := dz_c s1.2) (pc' := 24) rfl ha_C_1 rfl k15.1 k15.2 rfl ?_
        refine wp_s (i := .goto 4) (n := 3) (pc' := 28) (st' := [dz_I (Z 54 1 (dz_c s1.2))]) rfl rfl ?_
        replace H := dz_sm H
        exact H
-- 7
def jf_C_loudestSecond (Z : dz_Z) : Option (Int) := dz_lp (fun (s1 : Int × Int × Int) => if dz_c (Z 54 3 0) ≤ dz_c s1.2.2 then (some (Sum.inr s1.2.1)) else (if 0 ≤ dz_c s1.2.2 ∧ dz_c s1.2.2 < 12 then if dz_c (Z 54 2 (dz_c s1.2.2)) ≤ dz_c s1.1 then (some (Sum.inl (s1.1, s1.2.1, s1.2.2 + 1))) else (some (Sum.inl (Z 54 2 (dz_c s1.2.2), s1.2.2, s1.2.2 + 1))) else none)) 5000 (0, (-4), 0)
set_option maxRecDepth 20000 in
theorem jw_C_loudestSecond {X : Option (List Int32)} {D : Nat} {Q : Option Value → mm_H → Prop} (Z : dz_Z) (H : dz_p (jf_C_loudestSecond Z) (fun q => Q (some (dz_I q)) (hz_0 Z))) : mm_Wp X D mm_r7 0 [some (.ref 54), none, none, none] [] (hz_0 Z) Q := by
  unfold jf_C_loudestSecond at H
  refine wp_s (i := .iconst 0) (n := 1) (pc' := 1) (st' := [dz_I 0]) rfl rfl ?_
  refine wq_st (k := 1) (i := .istore_n 1) (n := 1) (ls' := [some (.ref 54), some (dz_I 0), none, none]) (pc' := 2) rfl rfl rfl rfl rfl ?_
  refine wp_s (i := .bipush (-4)) (n := 2) (pc' := 4) (st' := [dz_I (-4)]) rfl rfl ?_
  refine wq_st (k := 2) (i := .istore_n 2) (n := 1) (ls' := [some (.ref 54), some (dz_I 0), some (dz_I (-4)), none]) (pc' := 5) rfl rfl rfl rfl rfl ?_
  refine wp_s (i := .iconst 0) (n := 1) (pc' := 6) (st' := [dz_I 0]) rfl rfl ?_
  refine wq_st (k := 3) (i := .istore_n 3) (n := 1) (ls' := [some (.ref 54), some (dz_I 0), some (dz_I (-4)), some (dz_I 0)]) (pc' := 7) rfl rfl rfl rfl rfl ?_
  refine dz_lpi (P := fun (s1 : Int × Int × Int) => mm_Wp X D mm_r7 7 [some (.ref 54), some (dz_I s1.1), some (dz_I s1.2.1), some (dz_I s1.2.2)] [] (hz_0 Z) Q) (fun s1 H => ?_) 5000 (0, (-4), 0) H
  refine wp_s (i := .iload_n 3) (n := 1) (pc' := 8) (st' := [dz_I s1.2.2]) rfl rfl ?_
  refine wp_s (i := .aload_n 0) (n := 1) (pc' := 9) (st' := [.ref 54, dz_I s1.2.2]) rfl rfl ?_
  refine wq_gi (idx := 33) (pc' := 12) rfl rfl ho_C rfl rfl ?_
  refine wq_ic (p := dz_c (Z 54 3 0) ≤ dz_c s1.2.2) (tt := 40) (pc' := 15) rfl rfl (cq_ge rfl rfl) rfl (fun c2 => ?_) (fun c2 => ?_)
  · replace H := dz_it c2 H
    refine wp_s (i := .iload_n 2) (n := 1) (pc' := 41) (st' := [dz_I s1.2.1]) rfl rfl ?_
    refine wq_ri rfl rfl ?_
    replace H := dz_out H
    replace H := dz_sm H
    exact H
  · replace H := dz_if c2 H
    refine wp_s (i := .aload_n 0) (n := 1) (pc' := 16) (st' := [.ref 54]) rfl rfl ?_
    refine wq_gr (idx := 22) (a := 64) (pc' := 19) rfl rfl ho_C rfl rfl ?_
    refine wp_s (i := .iload_n 3) (n := 1) (pc' := 20) (st' := [dz_I s1.2.2, .ref 64]) rfl rfl ?_
    obtain ⟨k3, H⟩ := dz_ck H
    refine wq_ia (j' := dz_c s1.2.2) (pc' := 21) rfl ha_C_2 rfl k3.1 k3.2 rfl ?_
    refine wp_s (i := .iload_n 1) (n := 1) (pc' := 22) (st' := [dz_I s1.1, dz_I (Z 54 2 (dz_c s1.2.2))]) rfl rfl ?_
    refine wq_ic (p := dz_c (Z 54 2 (dz_c s1.2.2)) ≤ dz_c s1.1) (tt := 34) (pc' := 25) rfl rfl (cq_le rfl rfl) rfl (fun c4 => ?_) (fun c4 => ?_)
    · replace H := dz_it c4 H
      refine wq_inc (k := 3) (d := 1) (x := s1.2.2) (ls' := [some (.ref 54), some (dz_I s1.1), some (dz_I s1.2.1), some (dz_I (s1.2.2 + 1))]) (pc' := 37) rfl rfl rfl rfl ?_
      refine wp_s (i := .goto (-30)) (n := 3) (pc' := 7) (st' := []) rfl rfl ?_
      replace H := dz_back H
      exact H
    · replace H := dz_if c4 H
      refine wp_s (i := .aload_n 0) (n := 1) (pc' := 26) (st' := [.ref 54]) rfl rfl ?_
      refine wq_gr (idx := 22) (a := 64) (pc' := 29) rfl rfl ho_C rfl rfl ?_
      refine wp_s (i := .iload_n 3) (n := 1) (pc' := 30) (st' := [dz_I s1.2.2, .ref 64]) rfl rfl ?_
      refine wq_ia (j' := dz_c s1.2.2) (pc' := 31) rfl ha_C_2 rfl k3.1 k3.2 rfl ?_
      refine wq_st (k := 1) (i := .istore_n 1) (n := 1) (ls' := [some (.ref 54), some (dz_I (Z 54 2 (dz_c s1.2.2))), some (dz_I s1.2.1), some (dz_I s1.2.2)]) (pc' := 32) rfl rfl rfl rfl rfl ?_
      refine wp_s (i := .iload_n 3) (n := 1) (pc' := 33) (st' := [dz_I s1.2.2]) rfl rfl ?_
      refine wq_st (k := 2) (i := .istore_n 2) (n := 1) (ls' := [some (.ref 54), some (dz_I (Z 54 2 (dz_c s1.2.2))), some (dz_I s1.2.2), some (dz_I s1.2.2)]) (pc' := 34) rfl rfl rfl rfl rfl ?_
      refine wq_inc (k := 3) (d := 1) (x := s1.2.2) (ls' := [some (.ref 54), some (dz_I (Z 54 2 (dz_c s1.2.2))), some (dz_I s1.2.2), some (dz_I (s1.2.2 + 1))]) (pc' := 37) rfl rfl rfl rfl ?_
      refine wp_s (i := .goto (-30)) (n := 3) (pc' := 7) (st' := []) rfl rfl ?_
      replace H := dz_back H
      exact H
-- 8
def jf_C_wokenSleepers (a1 : Nat) (Z : dz_Z) : Option (Int) := dz_lp (fun (s1 : Int × Int) => if dz_c (Z a1 11 0) ≤ dz_c s1.2 then (some (Sum.inr s1.1)) else (if 0 ≤ dz_c s1.2 ∧ dz_c s1.2 < 4 then dz_lp (fun (s5 : Int × Int) => if dz_c (Z a1 13 (dz_c s1.2)) < dz_c s5.2 then (some (Sum.inr (Sum.inl (s5.1, s1.2 + 1)))) else (if dz_c (Z 54 3 0) ≤ dz_c s5.2 then (some (Sum.inr (Sum.inl (s5.1, s1.2 + 1)))) else (if 0 ≤ dz_c s5.2 ∧ dz_c s5.2 < 12 then Option.bind (α := Int) (if dz_c (Z 54 2 (dz_c s5.2)) < dz_c (Z a1 14 (dz_c s1.2)) then (some 0) else (some (dz_sl 1 s1.2))) (fun (q10 : Int) => some (Sum.inl (dz_or s5.1 q10, s5.2 + 1))) else none))) 5000 (s1.1, Z a1 12 (dz_c s1.2)) else none)) 5000 (0, 0)
set_option maxRecDepth 20000 in
theorem jw_C_wokenSleepers {X : Option (List Int32)} {D : Nat} {Q : Option Value → mm_H → Prop} (a1 : Nat) (ha1 : hz_isP a1) (Z : dz_Z) (H : dz_p (jf_C_wokenSleepers a1 Z) (fun q => Q (some (dz_I q)) (hz_0 Z))) : mm_Wp X D mm_r8 0 [some (.ref 54), some (.ref a1), none, none, none] [] (hz_0 Z) Q := by
  unfold jf_C_wokenSleepers at H
  refine wp_s (i := .iconst 0) (n := 1) (pc' := 1) (st' := [dz_I 0]) rfl rfl ?_
  refine wq_st (k := 2) (i := .istore_n 2) (n := 1) (ls' := [some (.ref 54), some (.ref a1), some (dz_I 0), none, none]) (pc' := 2) rfl rfl rfl rfl rfl ?_
  refine wp_s (i := .iconst 0) (n := 1) (pc' := 3) (st' := [dz_I 0]) rfl rfl ?_
  refine wq_st (k := 3) (i := .istore_n 3) (n := 1) (ls' := [some (.ref 54), some (.ref a1), some (dz_I 0), some (dz_I 0), none]) (pc' := 4) rfl rfl rfl rfl rfl ?_
  refine dz_lpi (P := fun (s1 : Int × Int) => ∀ (u2 : Option Int32), mm_Wp X D mm_r8 4 [some (.ref 54), some (.ref a1), some (dz_I s1.1), some (dz_I s1.2), Option.map Value.int u2] [] (hz_0 Z) Q) (fun s1 H => ?_) 5000 (0, 0) H none
  intro u2
  refine wp_s (i := .iload_n 3) (n := 1) (pc' := 5) (st' := [dz_I s1.2]) rfl rfl ?_
  refine wp_s (i := .aload_n 1) (n := 1) (pc' := 6) (st' := [.ref a1, dz_I s1.2]) rfl rfl ?_
  refine wq_gi (idx := 60) (pc' := 9) rfl rfl (ho_P ha1) rfl rfl ?_
  refine wq_ic (p := dz_c (Z a1 11 0) ≤ dz_c s1.2) (tt := 78) (pc' := 12) rfl rfl (cq_ge rfl rfl) rfl (fun c3 => ?_) (fun c3 => ?_)
  · replace H := dz_it c3 H
    refine wp_s (i := .iload_n 2) (n := 1) (pc' := 79) (st' := [dz_I s1.1]) rfl rfl ?_
    refine wq_ri rfl rfl ?_
    replace H := dz_out H
    replace H := dz_sm H
    exact H
  · replace H := dz_if c3 H
    refine wp_s (i := .aload_n 1) (n := 1) (pc' := 13) (st' := [.ref a1]) rfl rfl ?_
    refine wq_gr (idx := 65) (a := a1 + 8) (pc' := 16) rfl rfl (ho_P ha1) rfl rfl ?_
    refine wp_s (i := .iload_n 3) (n := 1) (pc' := 17) (st' := [dz_I s1.2, .ref (a1 + 8)]) rfl rfl ?_
    obtain ⟨k4, H⟩ := dz_ck H
    refine wq_ia (j' := dz_c s1.2) (pc' := 18) rfl (ha_P_12 ha1) rfl k4.1 k4.2 rfl ?_
    refine wq_st (k := 4) (i := .istore 4) (n := 2) (ls' := [some (.ref 54), some (.ref a1), some (dz_I s1.1), some (dz_I s1.2), some (dz_I (Z a1 12 (dz_c s1.2)))]) (pc' := 20) rfl rfl rfl rfl rfl ?_
    refine dz_lpi (P := fun (s5 : Int × Int) => mm_Wp X D mm_r8 20 [some (.ref 54), some (.ref a1), some (dz_I s5.1), some (dz_I s1.2), some (dz_I s5.2)] [] (hz_0 Z) Q) (fun s5 H => ?_) 5000 (s1.1, Z a1 12 (dz_c s1.2)) H
    refine wp_s (i := .iload 4) (n := 2) (pc' := 22) (st' := [dz_I s5.2]) rfl rfl ?_
    refine wp_s (i := .aload_n 1) (n := 1) (pc' := 23) (st' := [.ref a1, dz_I s5.2]) rfl rfl ?_
    refine wq_gr (idx := 68) (a := a1 + 9) (pc' := 26) rfl rfl (ho_P ha1) rfl rfl ?_
    refine wp_s (i := .iload_n 3) (n := 1) (pc' := 27) (st' := [dz_I s1.2, .ref (a1 + 9), dz_I s5.2]) rfl rfl ?_
    refine wq_ia (j' := dz_c s1.2) (pc' := 28) rfl (ha_P_13 ha1) rfl k4.1 k4.2 rfl ?_
    refine wq_ic (p := dz_c (Z a1 13 (dz_c s1.2)) < dz_c s5.2) (tt := 72) (pc' := 31) rfl rfl (cq_gt rfl rfl) rfl (fun c6 => ?_) (fun c6 => ?_)
    · replace H := dz_it c6 H
      refine wq_inc (k := 3) (d := 1) (x := s1.2) (ls' := [some (.ref 54), some (.ref a1), some (dz_I s5.1), some (dz_I (s1.2 + 1)), some (dz_I s5.2)]) (pc' := 75) rfl rfl rfl rfl ?_
      refine wp_s (i := .goto (-71)) (n := 3) (pc' := 4) (st' := []) rfl rfl ?_
      replace H := dz_out H
      replace H := dz_back H
      exact H (some (Int32.ofInt s5.2))
    · replace H := dz_if c6 H
      refine wp_s (i := .iload 4) (n := 2) (pc' := 33) (st' := [dz_I s5.2]) rfl rfl ?_
      refine wp_s (i := .aload_n 0) (n := 1) (pc' := 34) (st' := [.ref 54, dz_I s5.2]) rfl rfl ?_
      refine wq_gi (idx := 33) (pc' := 37) rfl rfl ho_C rfl rfl ?_
      refine wq_ic (p := dz_c (Z 54 3 0) ≤ dz_c s5.2) (tt := 72) (pc' := 40) rfl rfl (cq_ge rfl rfl) rfl (fun c7 => ?_) (fun c7 => ?_)
      · replace H := dz_it c7 H
        refine wq_inc (k := 3) (d := 1) (x := s1.2) (ls' := [some (.ref 54), some (.ref a1), some (dz_I s5.1), some (dz_I (s1.2 + 1)), some (dz_I s5.2)]) (pc' := 75) rfl rfl rfl rfl ?_
        refine wp_s (i := .goto (-71)) (n := 3) (pc' := 4) (st' := []) rfl rfl ?_
        replace H := dz_out H
        replace H := dz_back H
        exact H (some (Int32.ofInt s5.2))
      · replace H := dz_if c7 H
        refine wp_s (i := .iload_n 2) (n := 1) (pc' := 41) (st' := [dz_I s5.1]) rfl rfl ?_
        refine wp_s (i := .aload_n 0) (n := 1) (pc' := 42) (st' := [.ref 54, dz_I s5.1]) rfl rfl ?_
        refine wq_gr (idx := 22) (a := 64) (pc' := 45) rfl rfl ho_C rfl rfl ?_
        refine wp_s (i := .iload 4) (n := 2) (pc' := 47) (st' := [dz_I s5.2, .ref 64, dz_I s5.1]) rfl rfl ?_
        obtain ⟨k8, H⟩ := dz_ck H
        refine wq_ia (j' := dz_c s5.2) (pc' := 48) rfl ha_C_2 rfl k8.1 k8.2 rfl ?_
        refine wp_s (i := .aload_n 1) (n := 1) (pc' := 49) (st' := [.ref a1, dz_I (Z 54 2 (dz_c s5.2)), dz_I s5.1]) rfl rfl ?_
        refine wq_gr (idx := 71) (a := a1 + 10) (pc' := 52) rfl rfl (ho_P ha1) rfl rfl ?_
        refine wp_s (i := .iload_n 3) (n := 1) (pc' := 53) (st' := [dz_I s1.2, .ref (a1 + 10), dz_I (Z 54 2 (dz_c s5.2)), dz_I s5.1]) rfl rfl ?_
        refine wq_ia (j' := dz_c s1.2) (pc' := 54) rfl (ha_P_14 ha1) rfl k4.1 k4.2 rfl ?_
        refine dz_jn (P := fun (q10 : Int) => mm_Wp X D mm_r8 64 [some (.ref 54), some (.ref a1), some (dz_I s5.1), some (dz_I s1.2), some (dz_I s5.2)] [dz_I q10, dz_I s5.1] (hz_0 Z) Q) (dz_bi H) (fun q10 H => ?_) (fun H => ?_)
        · skip
          refine wq_2 (i := .ior) (z := dz_or s5.1 q10) (pc' := 65) rfl rfl (op_or _ _) rfl ?_
          refine wq_st (k := 2) (i := .istore_n 2) (n := 1) (ls' := [some (.ref 54), some (.ref a1), some (dz_I (dz_or s5.1 q10)), some (dz_I s1.2), some (dz_I s5.2)]) (pc' := 66) rfl rfl rfl rfl rfl ?_
          refine wq_inc (k := 4) (d := 1) (x := s5.2) (ls' := [some (.ref 54), some (.ref a1), some (dz_I (dz_or s5.1 q10)), some (dz_I s1.2), some (dz_I (s5.2 + 1))]) (pc' := 69) rfl rfl rfl rfl ?_
          refine wp_s (i := .goto (-49)) (n := 3) (pc' := 20) (st' := []) rfl rfl ?_
          replace H := dz_back H
          exact H
        · skip
          refine wq_ic (p := dz_c (Z 54 2 (dz_c s5.2)) < dz_c (Z a1 14 (dz_c s1.2))) (tt := 63) (pc' := 57) rfl rfl (cq_lt rfl rfl) rfl (fun c11 => ?_) (fun c11 => ?_)
          · replace H := dz_it c11 H
            refine wp_s (i := .iconst 0) (n := 1) (pc' := 64) (st' := [dz_I 0, dz_I s5.1]) rfl rfl ?_
            replace H := dz_sm H
            exact H
          · replace H := dz_if c11 H
            refine wp_s (i := .iconst 1) (n := 1) (pc' := 58) (st' := [dz_I 1, dz_I s5.1]) rfl rfl ?_
            refine wp_s (i := .iload_n 3) (n := 1) (pc' := 59) (st' := [dz_I s1.2, dz_I 1, dz_I s5.1]) rfl rfl ?_
            refine wq_2 (i := .ishl) (z := dz_sl 1 s1.2) (pc' := 60) rfl rfl (op_shl _ _) rfl ?_
            refine wp_s (i := .goto 4) (n := 3) (pc' := 64) (st' := [dz_I (dz_sl 1 s1.2), dz_I s5.1]) rfl rfl ?_
            replace H := dz_sm H
            exact H
-- 11
def jf_F_copyFrom (c0 : Nat) (a1 : Nat) (Z : dz_Z) : Option (dz_Z) := dz_a (dz_f Z c0 0 (Z a1 0)) fun Z1 => dz_a (dz_f Z1 c0 1 (Z1 a1 1)) fun Z2 => dz_a (dz_f Z2 c0 2 (Z2 a1 2)) fun Z3 => dz_a (dz_f Z3 c0 3 (Z3 a1 3)) fun Z4 => dz_a (dz_f Z4 c0 4 (Z4 a1 4)) fun Z5 => dz_a (dz_u Z5 c0 5 0 (Z5 a1 5 0)) fun Z6 => dz_a (dz_u Z6 c0 6 0 (Z6 a1 6 0)) fun Z7 => dz_a (dz_u Z7 c0 7 0 (Z7 a1 7 0)) fun Z8 => dz_a (dz_u Z8 c0 8 0 (Z8 a1 8 0)) fun Z9 => dz_a (dz_u Z9 c0 9 0 (Z9 a1 9 0)) fun Z10 => some Z10
set_option maxRecDepth 20000 in
theorem jw_F_copyFrom {X : Option (List Int32)} {D : Nat} {Q : Option Value → mm_H → Prop} (c0 : Nat) (hc0 : hz_isF c0) (a1 : Nat) (ha1 : hz_isF a1) (Z : dz_Z) (H : dz_p (jf_F_copyFrom c0 a1 Z) (fun q => Q (none) (hz_0 q))) : mm_Wp X (D + 1) mm_r11 0 [some (.ref c0), some (.ref a1)] [] (hz_0 Z) Q := by
  unfold jf_F_copyFrom at H
  refine wp_s (i := .aload_n 1) (n := 1) (pc' := 1) (st' := [.ref a1]) rfl rfl ?_
  refine wq_gr (idx := 9) (a := a1 + 1) (pc' := 4) rfl rfl (ho_F ha1) rfl rfl ?_
  refine wp_s (i := .iconst 0) (n := 1) (pc' := 5) (st' := [dz_I 0, .ref (a1 + 1)]) rfl rfl ?_
  refine wp_s (i := .aload_n 0) (n := 1) (pc' := 6) (st' := [.ref c0, dz_I 0, .ref (a1 + 1)]) rfl rfl ?_
  refine wq_gr (idx := 9) (a := c0 + 1) (pc' := 9) rfl rfl (ho_F hc0) rfl rfl ?_
  refine wp_s (i := .iconst 0) (n := 1) (pc' := 10) (st' := [dz_I 0, .ref (c0 + 1), dz_I 0, .ref (a1 + 1)]) rfl rfl ?_
  refine wp_s (i := .bipush 8) (n := 2) (pc' := 12) (st' := [dz_I 8, dz_I 0, .ref (c0 + 1), dz_I 0, .ref (a1 + 1)]) rfl rfl ?_
  refine wq_cp (Dp := D) (n := 8) (tag := 0) (pc' := 15) rfl rfl (by decide) (ha_F_0 ha1) (ha_F_0 hc0) dk_8 rfl rfl (fun Z1 eZ1 => ?_)
  replace H := dz_le H Z1 eZ1
  clear eZ1
  refine wp_s (i := .aload_n 1) (n := 1) (pc' := 16) (st' := [.ref a1]) rfl rfl ?_
  refine wq_gr (idx := 15) (a := a1 + 2) (pc' := 19) rfl rfl (ho_F ha1) rfl rfl ?_
  refine wp_s (i := .iconst 0) (n := 1) (pc' := 20) (st' := [dz_I 0, .ref (a1 + 2)]) rfl rfl ?_
  refine wp_s (i := .aload_n 0) (n := 1) (pc' := 21) (st' := [.ref c0, dz_I 0, .ref (a1 + 2)]) rfl rfl ?_
  refine wq_gr (idx := 15) (a := c0 + 2) (pc' := 24) rfl rfl (ho_F hc0) rfl rfl ?_
  refine wp_s (i := .iconst 0) (n := 1) (pc' := 25) (st' := [dz_I 0, .ref (c0 + 2), dz_I 0, .ref (a1 + 2)]) rfl rfl ?_
  refine wp_s (i := .bipush 8) (n := 2) (pc' := 27) (st' := [dz_I 8, dz_I 0, .ref (c0 + 2), dz_I 0, .ref (a1 + 2)]) rfl rfl ?_
  refine wq_cp (Dp := D) (n := 8) (tag := 0) (pc' := 30) rfl rfl (by decide) (ha_F_1 ha1) (ha_F_1 hc0) dk_8 rfl rfl (fun Z2 eZ2 => ?_)
  replace H := dz_le H Z2 eZ2
  clear eZ2
  refine wp_s (i := .aload_n 1) (n := 1) (pc' := 31) (st' := [.ref a1]) rfl rfl ?_
  refine wq_gr (idx := 18) (a := a1 + 3) (pc' := 34) rfl rfl (ho_F ha1) rfl rfl ?_
  refine wp_s (i := .iconst 0) (n := 1) (pc' := 35) (st' := [dz_I 0, .ref (a1 + 3)]) rfl rfl ?_
  refine wp_s (i := .aload_n 0) (n := 1) (pc' := 36) (st' := [.ref c0, dz_I 0, .ref (a1 + 3)]) rfl rfl ?_
  refine wq_gr (idx := 18) (a := c0 + 3) (pc' := 39) rfl rfl (ho_F hc0) rfl rfl ?_
  refine wp_s (i := .iconst 0) (n := 1) (pc' := 40) (st' := [dz_I 0, .ref (c0 + 3), dz_I 0, .ref (a1 + 3)]) rfl rfl ?_
  refine wp_s (i := .bipush 8) (n := 2) (pc' := 42) (st' := [dz_I 8, dz_I 0, .ref (c0 + 3), dz_I 0, .ref (a1 + 3)]) rfl rfl ?_
  refine wq_cp (Dp := D) (n := 8) (tag := 1) (pc' := 45) rfl rfl (by decide) (ha_F_2 ha1) (ha_F_2 hc0) dk_8 rfl rfl (fun Z3 eZ3 => ?_)
  replace H := dz_le H Z3 eZ3
  clear eZ3
  refine wp_s (i := .aload_n 1) (n := 1) (pc' := 46) (st' := [.ref a1]) rfl rfl ?_
  refine wq_gr (idx := 22) (a := a1 + 4) (pc' := 49) rfl rfl (ho_F ha1) rfl rfl ?_
  refine wp_s (i := .iconst 0) (n := 1) (pc' := 50) (st' := [dz_I 0, .ref (a1 + 4)]) rfl rfl ?_
  refine wp_s (i := .aload_n 0) (n := 1) (pc' := 51) (st' := [.ref c0, dz_I 0, .ref (a1 + 4)]) rfl rfl ?_
  refine wq_gr (idx := 22) (a := c0 + 4) (pc' := 54) rfl rfl (ho_F hc0) rfl rfl ?_
  refine wp_s (i := .iconst 0) (n := 1) (pc' := 55) (st' := [dz_I 0, .ref (c0 + 4), dz_I 0, .ref (a1 + 4)]) rfl rfl ?_
  refine wp_s (i := .bipush 8) (n := 2) (pc' := 57) (st' := [dz_I 8, dz_I 0, .ref (c0 + 4), dz_I 0, .ref (a1 + 4)]) rfl rfl ?_
  refine wq_cp (Dp := D) (n := 8) (tag := 0) (pc' := 60) rfl rfl (by decide) (ha_F_3 ha1) (ha_F_3 hc0) dk_8 rfl rfl (fun Z4 eZ4 => ?_)
  replace H := dz_le H Z4 eZ4
  clear eZ4
  refine wp_s (i := .aload_n 1) (n := 1) (pc' := 61) (st' := [.ref a1]) rfl rfl ?_
  refine wq_gr (idx := 25) (a := a1 + 5) (pc' := 64) rfl rfl (ho_F ha1) rfl rfl ?_
  refine wp_s (i := .iconst 0) (n := 1) (pc' := 65) (st' := [dz_I 0, .ref (a1 + 5)]) rfl rfl ?_
  refine wp_s (i := .aload_n 0) (n := 1) (pc' := 66) (st' := [.ref c0, dz_I 0, .ref (a1 + 5)]) rfl rfl ?_
  refine wq_gr (idx := 25) (a := c0 + 5) (pc' := 69) rfl rfl (ho_F hc0) rfl rfl ?_
  refine wp_s (i := .iconst 0) (n := 1) (pc' := 70) (st' := [dz_I 0, .ref (c0 + 5), dz_I 0, .ref (a1 + 5)]) rfl rfl ?_
  refine wp_s (i := .bipush 8) (n := 2) (pc' := 72) (st' := [dz_I 8, dz_I 0, .ref (c0 + 5), dz_I 0, .ref (a1 + 5)]) rfl rfl ?_
  refine wq_cp (Dp := D) (n := 8) (tag := 0) (pc' := 75) rfl rfl (by decide) (ha_F_4 ha1) (ha_F_4 hc0) dk_8 rfl rfl (fun Z5 eZ5 => ?_)
  replace H := dz_le H Z5 eZ5
  clear eZ5
  refine wp_s (i := .aload_n 0) (n := 1) (pc' := 76) (st' := [.ref c0]) rfl rfl ?_
  refine wp_s (i := .aload_n 1) (n := 1) (pc' := 77) (st' := [.ref a1, .ref c0]) rfl rfl ?_
  refine wq_gi (idx := 43) (pc' := 80) rfl rfl (ho_F ha1) rfl rfl ?_
  refine wq_pi (idx := 43) (x := Z5 a1 5 0) (pc' := 83) rfl rfl rfl (ho_F hc0) rfl rfl rfl rfl (fun Z6 eZ6 => ?_)
  replace H := dz_le H Z6 eZ6
  clear eZ6
  refine wp_s (i := .aload_n 0) (n := 1) (pc' := 84) (st' := [.ref c0]) rfl rfl ?_
  refine wp_s (i := .aload_n 1) (n := 1) (pc' := 85) (st' := [.ref a1, .ref c0]) rfl rfl ?_
  refine wq_gi (idx := 47) (pc' := 88) rfl rfl (ho_F ha1) rfl rfl ?_
  refine wq_pi (idx := 47) (x := Z6 a1 6 0) (pc' := 91) rfl rfl rfl (ho_F hc0) rfl rfl rfl rfl (fun Z7 eZ7 => ?_)
  replace H := dz_le H Z7 eZ7
  clear eZ7
  refine wp_s (i := .aload_n 0) (n := 1) (pc' := 92) (st' := [.ref c0]) rfl rfl ?_
  refine wp_s (i := .aload_n 1) (n := 1) (pc' := 93) (st' := [.ref a1, .ref c0]) rfl rfl ?_
  refine wq_gi (idx := 50) (pc' := 96) rfl rfl (ho_F ha1) rfl rfl ?_
  refine wq_pi (idx := 50) (x := Z7 a1 7 0) (pc' := 99) rfl rfl rfl (ho_F hc0) rfl rfl rfl rfl (fun Z8 eZ8 => ?_)
  replace H := dz_le H Z8 eZ8
  clear eZ8
  refine wp_s (i := .aload_n 0) (n := 1) (pc' := 100) (st' := [.ref c0]) rfl rfl ?_
  refine wp_s (i := .aload_n 1) (n := 1) (pc' := 101) (st' := [.ref a1, .ref c0]) rfl rfl ?_
  refine wq_gi (idx := 53) (pc' := 104) rfl rfl (ho_F ha1) rfl rfl ?_
  refine wq_pi (idx := 53) (x := Z8 a1 8 0) (pc' := 107) rfl rfl rfl (ho_F hc0) rfl rfl rfl rfl (fun Z9 eZ9 => ?_)
  replace H := dz_le H Z9 eZ9
  clear eZ9
  refine wp_s (i := .aload_n 0) (n := 1) (pc' := 108) (st' := [.ref c0]) rfl rfl ?_
  refine wp_s (i := .aload_n 1) (n := 1) (pc' := 109) (st' := [.ref a1, .ref c0]) rfl rfl ?_
  refine wq_gi (idx := 56) (pc' := 112) rfl rfl (ho_F ha1) rfl rfl ?_
  refine wq_pi (idx := 56) (x := Z9 a1 9 0) (pc' := 115) rfl rfl rfl (ho_F hc0) rfl rfl rfl rfl (fun Z10 eZ10 => ?_)
  replace H := dz_le H Z10 eZ10
  clear eZ10
  refine wq_rv rfl rfl ?_
  replace H := dz_sm H
  exact H
-- 22
def jf_F_emptyCup (c0 : Nat) (a1 : Int) (Z : dz_Z) : Option (dz_Z) := if 0 ≤ dz_c a1 ∧ dz_c a1 < 8 then dz_a (dz_u Z c0 7 0 ((Z c0 7 0) + (Z c0 0 (dz_c a1)))) fun Z2 => dz_a (dz_u Z2 c0 0 (dz_c a1) 0) fun Z3 => dz_a (dz_u Z3 c0 1 (dz_c a1) 0) fun Z4 => some Z4 else none
set_option maxRecDepth 20000 in
theorem jw_F_emptyCup {X : Option (List Int32)} {D : Nat} {Q : Option Value → mm_H → Prop} (c0 : Nat) (hc0 : hz_isF c0) (a1 : Int) (Z : dz_Z) (H : dz_p (jf_F_emptyCup c0 a1 Z) (fun q => Q (none) (hz_0 q))) : mm_Wp X D mm_r22 0 [some (.ref c0), some (dz_I a1)] [] (hz_0 Z) Q := by
  unfold jf_F_emptyCup at H
  refine wp_s (i := .aload_n 0) (n := 1) (pc' := 1) (st' := [.ref c0]) rfl rfl ?_
  refine wp_s (i := .dup) (n := 1) (pc' := 2) (st' := [.ref c0, .ref c0]) rfl rfl ?_
  refine wq_gi (idx := 50) (pc' := 5) rfl rfl (ho_F hc0) rfl rfl ?_
  refine wp_s (i := .aload_n 0) (n := 1) (pc' := 6) (st' := [.ref c0, dz_I (Z c0 7 0), .ref c0]) rfl rfl ?_
  refine wq_gr (idx := 9) (a := c0 + 1) (pc' := 9) rfl rfl (ho_F hc0) rfl rfl ?_
  refine wp_s (i := .iload_n 1) (n := 1) (pc' := 10) (st' := [dz_I a1, .ref (c0 + 1), dz_I (Z c0 7 0), .ref c0]) rfl rfl ?_
  obtain ⟨k1, H⟩ := dz_ck H
  refine wq_ia (j' := dz_c a1) (pc' := 11) rfl (ha_F_0 hc0) rfl k1.1 k1.2 rfl ?_
  refine wq_2 (i := .iadd) (z := (Z c0 7 0) + (Z c0 0 (dz_c a1))) (pc' := 12) rfl rfl (op_add _ _) rfl ?_
  refine wq_pi (idx := 50) (x := (Z c0 7 0) + (Z c0 0 (dz_c a1))) (pc' := 15) rfl rfl rfl (ho_F hc0) rfl rfl rfl rfl (fun Z2 eZ2 => ?_)
  replace H := dz_le H Z2 eZ2
  clear eZ2
  refine wp_s (i := .aload_n 0) (n := 1) (pc' := 16) (st' := [.ref c0]) rfl rfl ?_
  refine wq_gr (idx := 9) (a := c0 + 1) (pc' := 19) rfl rfl (ho_F hc0) rfl rfl ?_
  refine wp_s (i := .iload_n 1) (n := 1) (pc' := 20) (st' := [dz_I a1, .ref (c0 + 1)]) rfl rfl ?_
  refine wp_s (i := .iconst 0) (n := 1) (pc' := 21) (st' := [dz_I 0, dz_I a1, .ref (c0 + 1)]) rfl rfl ?_
  refine wq_is (j' := dz_c a1) (x := 0) (pc' := 22) rfl (ha_F_0 hc0) rfl k1.1 k1.2 rfl (fun Z3 eZ3 => ?_)
  replace H := dz_le H Z3 eZ3
  clear eZ3
  refine wp_s (i := .aload_n 0) (n := 1) (pc' := 23) (st' := [.ref c0]) rfl rfl ?_
  refine wq_gr (idx := 15) (a := c0 + 2) (pc' := 26) rfl rfl (ho_F hc0) rfl rfl ?_
  refine wp_s (i := .iload_n 1) (n := 1) (pc' := 27) (st' := [dz_I a1, .ref (c0 + 2)]) rfl rfl ?_
  refine wp_s (i := .iconst 0) (n := 1) (pc' := 28) (st' := [dz_I 0, dz_I a1, .ref (c0 + 2)]) rfl rfl ?_
  refine wq_is (j' := dz_c a1) (x := 0) (pc' := 29) rfl (ha_F_1 hc0) rfl k1.1 k1.2 rfl (fun Z4 eZ4 => ?_)
  replace H := dz_le H Z4 eZ4
  clear eZ4
  refine wq_rv rfl rfl ?_
  replace H := dz_sm H
  exact H
-- 24
def jf_F_brokenSpouts (c0 : Nat) (a1 : Nat) (Z : dz_Z) : Option (Int) := dz_lp (fun (s1 : Int × Int) => if dz_c (Z a1 6 0) ≤ dz_c s1.2 then (some (Sum.inr s1.1)) else (Option.bind (jf_F_isBroken c0 a1 s1.2 Z) fun q3 => Option.bind (α := Int) (if q3 = false then (some 0) else (some (dz_sl 1 s1.2))) (fun (q5 : Int) => some (Sum.inl (dz_or s1.1 q5, s1.2 + 1))))) 5000 (0, 0)
set_option maxRecDepth 20000 in
theorem jw_F_brokenSpouts {X : Option (List Int32)} {D : Nat} {Q : Option Value → mm_H → Prop} (c0 : Nat) (hc0 : hz_isF c0) (a1 : Nat) (ha1 : hz_isP a1) (Z : dz_Z) (H : dz_p (jf_F_brokenSpouts c0 a1 Z) (fun q => Q (some (dz_I q)) (hz_0 Z))) : mm_Wp X (D + 1) mm_r24 0 [some (.ref c0), some (.ref a1), none, none] [] (hz_0 Z) Q := by
  unfold jf_F_brokenSpouts at H
  refine wp_s (i := .iconst 0) (n := 1) (pc' := 1) (st' := [dz_I 0]) rfl rfl ?_
  refine wq_st (k := 2) (i := .istore_n 2) (n := 1) (ls' := [some (.ref c0), some (.ref a1), some (dz_I 0), none]) (pc' := 2) rfl rfl rfl rfl rfl ?_
  refine wp_s (i := .iconst 0) (n := 1) (pc' := 3) (st' := [dz_I 0]) rfl rfl ?_
  refine wq_st (k := 3) (i := .istore_n 3) (n := 1) (ls' := [some (.ref c0), some (.ref a1), some (dz_I 0), some (dz_I 0)]) (pc' := 4) rfl rfl rfl rfl rfl ?_
  refine dz_lpi (P := fun (s1 : Int × Int) => mm_Wp X (D + 1) mm_r24 4 [some (.ref c0), some (.ref a1), some (dz_I s1.1), some (dz_I s1.2)] [] (hz_0 Z) Q) (fun s1 H => ?_) 5000 (0, 0) H
  refine wp_s (i := .iload_n 3) (n := 1) (pc' := 5) (st' := [dz_I s1.2]) rfl rfl ?_
  refine wp_s (i := .aload_n 1) (n := 1) (pc' := 6) (st' := [.ref a1, dz_I s1.2]) rfl rfl ?_
  refine wq_gi (idx := 113) (pc' := 9) rfl rfl (ho_P ha1) rfl rfl ?_
  refine wq_ic (p := dz_c (Z a1 6 0) ≤ dz_c s1.2) (tt := 37) (pc' := 12) rfl rfl (cq_ge rfl rfl) rfl (fun c2 => ?_) (fun c2 => ?_)
  · replace H := dz_it c2 H
    refine wp_s (i := .iload_n 2) (n := 1) (pc' := 38) (st' := [dz_I s1.1]) rfl rfl ?_
    refine wq_ri rfl rfl ?_
    replace H := dz_out H
    replace H := dz_sm H
    exact H
  · replace H := dz_if c2 H
    refine wp_s (i := .iload_n 2) (n := 1) (pc' := 13) (st' := [dz_I s1.1]) rfl rfl ?_
    refine wp_s (i := .aload_n 0) (n := 1) (pc' := 14) (st' := [.ref c0, dz_I s1.1]) rfl rfl ?_
    refine wp_s (i := .aload_n 1) (n := 1) (pc' := 15) (st' := [.ref a1, .ref c0, dz_I s1.1]) rfl rfl ?_
    refine wp_s (i := .iload_n 3) (n := 1) (pc' := 16) (st' := [dz_I s1.2, .ref a1, .ref c0, dz_I s1.1]) rfl rfl ?_
    refine wq_cv (Dq := D) (r' := mm_r23) (as0 := [.ref a1, dz_I s1.2]) (rest := [dz_I s1.1]) (ls' := [some (.ref c0), some (.ref a1), some (dz_I s1.2)]) (pc' := 19) rfl rfl rfl rfl (ho_F hc0) rfl rfl rfl ?_
    refine jw_F_isBroken (X := X) (D := D + 0) c0 hc0 a1 ha1 s1.2 Z (dz_pm (dz_bi H) (fun q3 H => ?_))
    show mm_Wp X (D + 1) mm_r24 19 [some (.ref c0), some (.ref a1), some (dz_I s1.1), some (dz_I s1.2)] [dz_B q3, dz_I s1.1] (hz_0 Z) Q
    refine dz_jn (P := fun (q5 : Int) => mm_Wp X (D + 1) mm_r24 29 [some (.ref c0), some (.ref a1), some (dz_I s1.1), some (dz_I s1.2)] [dz_I q5, dz_I s1.1] (hz_0 Z) Q) (dz_bi H) (fun q5 H => ?_) (fun H => ?_)
    · skip
      refine wq_2 (i := .ior) (z := dz_or s1.1 q5) (pc' := 30) rfl rfl (op_or _ _) rfl ?_
      refine wq_st (k := 2) (i := .istore_n 2) (n := 1) (ls' := [some (.ref c0), some (.ref a1), some (dz_I (dz_or s1.1 q5)), some (dz_I s1.2)]) (pc' := 31) rfl rfl rfl rfl rfl ?_
      refine wq_inc (k := 3) (d := 1) (x := s1.2) (ls' := [some (.ref c0), some (.ref a1), some (dz_I (dz_or s1.1 q5)), some (dz_I (s1.2 + 1))]) (pc' := 34) rfl rfl rfl rfl ?_
      refine wp_s (i := .goto (-30)) (n := 3) (pc' := 4) (st' := []) rfl rfl ?_
      replace H := dz_back H
      exact H
    · skip
      refine wq_if (p := q3 = false) (tt := 28) (pc' := 22) rfl rfl (cb_eq) rfl (fun c6 => ?_) (fun c6 => ?_)
      · replace H := dz_it c6 H
        refine wp_s (i := .iconst 0) (n := 1) (pc' := 29) (st' := [dz_I 0, dz_I s1.1]) rfl rfl ?_
        replace H := dz_sm H
        exact H
      · replace H := dz_if c6 H
        refine wp_s (i := .iconst 1) (n := 1) (pc' := 23) (st' := [dz_I 1, dz_I s1.1]) rfl rfl ?_
        refine wp_s (i := .iload_n 3) (n := 1) (pc' := 24) (st' := [dz_I s1.2, dz_I 1, dz_I s1.1]) rfl rfl ?_
        refine wq_2 (i := .ishl) (z := dz_sl 1 s1.2) (pc' := 25) rfl rfl (op_shl _ _) rfl ?_
        refine wp_s (i := .goto 4) (n := 3) (pc' := 29) (st' := [dz_I (dz_sl 1 s1.2), dz_I s1.1]) rfl rfl ?_
        replace H := dz_sm H
        exact H
-- 27
def jf_P_forget (c0 : Nat) (Z : dz_Z) : Option (dz_Z) := dz_a (dz_u Z c0 0 0 0) fun Z1 => dz_a (dz_u Z1 c0 3 0 0) fun Z2 => dz_a (dz_u Z2 c0 6 0 0) fun Z3 => dz_a (dz_u Z3 c0 10 0 0) fun Z4 => dz_a (dz_u Z4 c0 11 0 0) fun Z5 => dz_a (dz_u Z5 c0 15 0 0) fun Z6 => some Z6
set_option maxRecDepth 20000 in
theorem jw_P_forget {X : Option (List Int32)} {D : Nat} {Q : Option Value → mm_H → Prop} (c0 : Nat) (hc0 : hz_isP c0) (Z : dz_Z) (H : dz_p (jf_P_forget c0 Z) (fun q => Q (none) (hz_0 q))) : mm_Wp X D mm_r27 0 [some (.ref c0)] [] (hz_0 Z) Q := by
  unfold jf_P_forget at H
  refine wp_s (i := .aload_n 0) (n := 1) (pc' := 1) (st' := [.ref c0]) rfl rfl ?_
  refine wp_s (i := .iconst 0) (n := 1) (pc' := 2) (st' := [dz_I 0, .ref c0]) rfl rfl ?_
  refine wq_pi (idx := 42) (x := 0) (pc' := 5) rfl rfl rfl (ho_P hc0) rfl rfl rfl rfl (fun Z1 eZ1 => ?_)
  replace H := dz_le H Z1 eZ1
  clear eZ1
  refine wp_s (i := .aload_n 0) (n := 1) (pc' := 6) (st' := [.ref c0]) rfl rfl ?_
  refine wp_s (i := .iconst 0) (n := 1) (pc' := 7) (st' := [dz_I 0, .ref c0]) rfl rfl ?_
  refine wq_pi (idx := 46) (x := 0) (pc' := 10) rfl rfl rfl (ho_P hc0) rfl rfl rfl rfl (fun Z2 eZ2 => ?_)
  replace H := dz_le H Z2 eZ2
  clear eZ2
  refine wp_s (i := .aload_n 0) (n := 1) (pc' := 11) (st' := [.ref c0]) rfl rfl ?_
  refine wp_s (i := .iconst 0) (n := 1) (pc' := 12) (st' := [dz_I 0, .ref c0]) rfl rfl ?_
  refine wq_pi (idx := 49) (x := 0) (pc' := 15) rfl rfl rfl (ho_P hc0) rfl rfl rfl rfl (fun Z3 eZ3 => ?_)
  replace H := dz_le H Z3 eZ3
  clear eZ3
  refine wp_s (i := .aload_n 0) (n := 1) (pc' := 16) (st' := [.ref c0]) rfl rfl ?_
  refine wp_s (i := .iconst 0) (n := 1) (pc' := 17) (st' := [dz_I 0, .ref c0]) rfl rfl ?_
  refine wq_pi (idx := 52) (x := 0) (pc' := 20) rfl rfl rfl (ho_P hc0) rfl rfl rfl rfl (fun Z4 eZ4 => ?_)
  replace H := dz_le H Z4 eZ4
  clear eZ4
  refine wp_s (i := .aload_n 0) (n := 1) (pc' := 21) (st' := [.ref c0]) rfl rfl ?_
  refine wp_s (i := .iconst 0) (n := 1) (pc' := 22) (st' := [dz_I 0, .ref c0]) rfl rfl ?_
  refine wq_pi (idx := 55) (x := 0) (pc' := 25) rfl rfl rfl (ho_P hc0) rfl rfl rfl rfl (fun Z5 eZ5 => ?_)
  replace H := dz_le H Z5 eZ5
  clear eZ5
  refine wp_s (i := .aload_n 0) (n := 1) (pc' := 26) (st' := [.ref c0]) rfl rfl ?_
  refine wp_s (i := .iconst 0) (n := 1) (pc' := 27) (st' := [dz_I 0, .ref c0]) rfl rfl ?_
  refine wq_pi (idx := 58) (x := 0) (pc' := 30) rfl rfl rfl (ho_P hc0) rfl rfl rfl rfl (fun Z6 eZ6 => ?_)
  replace H := dz_le H Z6 eZ6
  clear eZ6
  refine wq_rv rfl rfl ?_
  replace H := dz_sm H
  exact H
end mg_25m01
section mg_25m02
-- 53
def jf_S_forget (c0 : Nat) (Z : dz_Z) : Option (dz_Z) := dz_a (dz_f Z c0 0 (fun _ => 2)) fun Z1 => dz_a (dz_f Z1 c0 1 (fun _ => 0)) fun Z2 => dz_a (dz_u Z2 c0 6 0 0) fun Z3 => some Z3
set_option maxRecDepth 20000 in
theorem jw_S_forget {X : Option (List Int32)} {D : Nat} {Q : Option Value → mm_H → Prop} (c0 : Nat) (hc0 : hz_isS c0) (Z : dz_Z) (H : dz_p (jf_S_forget c0 Z) (fun q => Q (none) (hz_0 q))) : mm_Wp X (D + 1) mm_r53 0 [some (.ref c0)] [] (hz_0 Z) Q := by
  unfold jf_S_forget at H
  refine wp_s (i := .aload_n 0) (n := 1) (pc' := 1) (st' := [.ref c0]) rfl rfl ?_
  refine wq_gr (idx := 9) (a := c0 + 1) (pc' := 4) rfl rfl (ho_S hc0) rfl rfl ?_
  refine wp_s (i := .iconst 2) (n := 1) (pc' := 5) (st' := [dz_I 2, .ref (c0 + 1)]) rfl rfl ?_
  refine wq_cs (Dq := D) (r' := mm_r200) (as0 := [.ref (c0 + 1), dz_I 2]) (rest := []) (ls' := [some (.ref (c0 + 1)), some (dz_I 2), none, none]) (pc' := 8) rfl rfl (by decide) rfl rfl rfl rfl rfl ?_
  refine jw_fillI (ha_S_0 hc0) (by decide) (fun Z1 eZ1 => ?_)
  replace H := dz_le H Z1 eZ1
  clear eZ1
  show mm_Wp X (D + 1) mm_r53 8 [some (.ref c0)] [] (hz_0 Z1) Q
  refine wp_s (i := .aload_n 0) (n := 1) (pc' := 9) (st' := [.ref c0]) rfl rfl ?_
  refine wq_gr (idx := 15) (a := c0 + 2) (pc' := 12) rfl rfl (ho_S hc0) rfl rfl ?_
  refine wp_s (i := .iconst 0) (n := 1) (pc' := 13) (st' := [dz_I 0, .ref (c0 + 2)]) rfl rfl ?_
  refine wq_cs (Dq := D) (r' := mm_r200) (as0 := [.ref (c0 + 2), dz_I 0]) (rest := []) (ls' := [some (.ref (c0 + 2)), some (dz_I 0), none, none]) (pc' := 16) rfl rfl (by decide) rfl rfl rfl rfl rfl ?_
  refine jw_fillI (ha_S_1 hc0) (by decide) (fun Z2 eZ2 => ?_)
  replace H := dz_le H Z2 eZ2
  clear eZ2
  show mm_Wp X (D + 1) mm_r53 16 [some (.ref c0)] [] (hz_0 Z2) Q
  refine wp_s (i := .aload_n 0) (n := 1) (pc' := 17) (st' := [.ref c0]) rfl rfl ?_
  refine wp_s (i := .iconst 0) (n := 1) (pc' := 18) (st' := [dz_I 0, .ref c0]) rfl rfl ?_
  refine wq_pi (idx := 38) (x := 0) (pc' := 21) rfl rfl rfl (ho_S hc0) rfl rfl rfl rfl (fun Z3 eZ3 => ?_)
  replace H := dz_le H Z3 eZ3
  clear eZ3
  refine wq_rv rfl rfl ?_
  replace H := dz_sm H
  exact H
-- 29
def jf_R_begin (Z : dz_Z) : Option (dz_Z) := if hz_isP (Z 1 1 0).toNat then Option.bind (jf_P_forget ((Z 1 1 0).toNat) Z) fun q2 => if hz_isS (q2 1 2 0).toNat then Option.bind (jf_S_forget ((q2 1 2 0).toNat) q2) fun q4 => dz_a (dz_u q4 1 5 0 0) fun Z5 => dz_a (dz_u Z5 1 3 0 0) fun Z6 => dz_a (dz_u Z6 1 4 0 0) fun Z7 => dz_a (dz_u Z7 1 6 0 0) fun Z8 => some Z8 else none else none
set_option maxRecDepth 20000 in
theorem jw_R_begin {X : Option (List Int32)} {D : Nat} {Q : Option Value → mm_H → Prop} (Z : dz_Z) (H : dz_p (jf_R_begin Z) (fun q => Q (none) (hz_0 q))) : mm_Wp X (D + 2) mm_r29 0 [some (.ref 1)] [] (hz_0 Z) Q := by
  unfold jf_R_begin at H
  refine wp_s (i := .aload_n 0) (n := 1) (pc' := 1) (st' := [.ref 1]) rfl rfl ?_
  obtain ⟨k1, H⟩ := dz_ck H
  refine wq_gd (idx := 21) (pc' := 4) rfl rfl ho_R rfl rfl ?_
  refine wq_cv (Dq := (D + 1)) (r' := mm_r27) (as0 := []) (rest := []) (ls' := [some (.ref ((Z 1 1 0).toNat))]) (pc' := 7) rfl rfl rfl rfl (ho_P k1) rfl rfl rfl ?_
  refine jw_P_forget (X := X) (D := D + 1) ((Z 1 1 0).toNat) k1 Z (dz_pm (dz_bi H) (fun q2 H => ?_))
  show mm_Wp X (D + 2) mm_r29 7 [some (.ref 1)] [] (hz_0 q2) Q
  refine wp_s (i := .aload_n 0) (n := 1) (pc' := 8) (st' := [.ref 1]) rfl rfl ?_
  obtain ⟨k3, H⟩ := dz_ck H
  refine wq_gd (idx := 28) (pc' := 11) rfl rfl ho_R rfl rfl ?_
  refine wq_cv (Dq := (D + 1)) (r' := mm_r53) (as0 := []) (rest := []) (ls' := [some (.ref ((q2 1 2 0).toNat))]) (pc' := 14) rfl rfl rfl rfl (ho_S k3) rfl rfl rfl ?_
  refine jw_S_forget (X := X) (D := D + 0) ((q2 1 2 0).toNat) k3 q2 (dz_pm (dz_bi H) (fun q4 H => ?_))
  show mm_Wp X (D + 2) mm_r29 14 [some (.ref 1)] [] (hz_0 q4) Q
  refine wp_s (i := .aload_n 0) (n := 1) (pc' := 15) (st' := [.ref 1]) rfl rfl ?_
  refine wp_s (i := .iconst 0) (n := 1) (pc' := 16) (st' := [dz_I 0, .ref 1]) rfl rfl ?_
  refine wq_pi (idx := 36) (x := 0) (pc' := 19) rfl rfl rfl ho_R rfl rfl rfl rfl (fun Z5 eZ5 => ?_)
  replace H := dz_le H Z5 eZ5
  clear eZ5
  refine wp_s (i := .aload_n 0) (n := 1) (pc' := 20) (st' := [.ref 1]) rfl rfl ?_
  refine wp_s (i := .iconst 0) (n := 1) (pc' := 21) (st' := [dz_I 0, .ref 1]) rfl rfl ?_
  refine wq_pi (idx := 40) (x := 0) (pc' := 24) rfl rfl rfl ho_R rfl rfl rfl rfl (fun Z6 eZ6 => ?_)
  replace H := dz_le H Z6 eZ6
  clear eZ6
  refine wp_s (i := .aload_n 0) (n := 1) (pc' := 25) (st' := [.ref 1]) rfl rfl ?_
  refine wp_s (i := .iconst 0) (n := 1) (pc' := 26) (st' := [dz_I 0, .ref 1]) rfl rfl ?_
  refine wq_pi (idx := 44) (x := 0) (pc' := 29) rfl rfl rfl ho_R rfl rfl rfl rfl (fun Z7 eZ7 => ?_)
  replace H := dz_le H Z7 eZ7
  clear eZ7
  refine wp_s (i := .aload_n 0) (n := 1) (pc' := 30) (st' := [.ref 1]) rfl rfl ?_
  refine wp_s (i := .iconst 0) (n := 1) (pc' := 31) (st' := [dz_I 0, .ref 1]) rfl rfl ?_
  refine wq_pi (idx := 47) (x := 0) (pc' := 34) rfl rfl rfl ho_R rfl rfl rfl rfl (fun Z8 eZ8 => ?_)
  replace H := dz_le H Z8 eZ8
  clear eZ8
  refine wq_rv rfl rfl ?_
  replace H := dz_sm H
  exact H
-- 30
def jf_R_fail (a1 : Int) (Z : dz_Z) : Option (Bool × dz_Z) := dz_a (dz_u Z 1 3 0 a1) fun Z1 => dz_a (dz_u Z1 1 4 0 (Z1 1 7 0)) fun Z2 => some (false, Z2)
set_option maxRecDepth 20000 in
theorem jw_R_fail {X : Option (List Int32)} {D : Nat} {Q : Option Value → mm_H → Prop} (a1 : Int) (Z : dz_Z) (H : dz_p (jf_R_fail a1 Z) (fun q => Q (some (dz_B q.1)) (hz_0 q.2))) : mm_Wp X D mm_r30 0 [some (.ref 1), some (dz_I a1)] [] (hz_0 Z) Q := by
  unfold jf_R_fail at H
  refine wp_s (i := .aload_n 0) (n := 1) (pc' := 1) (st' := [.ref 1]) rfl rfl ?_
  refine wp_s (i := .iload_n 1) (n := 1) (pc' := 2) (st' := [dz_I a1, .ref 1]) rfl rfl ?_
  refine wq_pi (idx := 40) (x := a1) (pc' := 5) rfl rfl rfl ho_R rfl rfl rfl rfl (fun Z1 eZ1 => ?_)
  replace H := dz_le H Z1 eZ1
  clear eZ1
  refine wp_s (i := .aload_n 0) (n := 1) (pc' := 6) (st' := [.ref 1]) rfl rfl ?_
  refine wp_s (i := .aload_n 0) (n := 1) (pc' := 7) (st' := [.ref 1, .ref 1]) rfl rfl ?_
  refine wq_gi (idx := 50) (pc' := 10) rfl rfl ho_R rfl rfl ?_
  refine wq_pi (idx := 44) (x := Z1 1 7 0) (pc' := 13) rfl rfl rfl ho_R rfl rfl rfl rfl (fun Z2 eZ2 => ?_)
  replace H := dz_le H Z2 eZ2
  clear eZ2
  refine wp_s (i := .iconst 0) (n := 1) (pc' := 14) (st' := [dz_I 0]) rfl rfl ?_
  refine wq_rf rfl rfl ?_
  replace H := dz_sm H
  exact H
-- 32
def jf_R_kindAt (a1 : Int) (Z : dz_Z) : Option (Int) := if dz_c a1 < dz_c (Z 2 1 0) then (if 0 ≤ dz_c a1 ∧ dz_c a1 < 320 then if dz_c (Z 2 0 (dz_c a1)) < 97 then (if dz_c (Z 2 0 (dz_c a1)) < 48 then (if dz_c (Z 2 0 (dz_c a1)) ≠ 59 then (some 0) else (some 4)) else (if 57 < dz_c (Z 2 0 (dz_c a1)) then (if dz_c (Z 2 0 (dz_c a1)) ≠ 59 then (some 0) else (some 4)) else (some 3))) else (if 122 < dz_c (Z 2 0 (dz_c a1)) then (if dz_c (Z 2 0 (dz_c a1)) < 48 then (if dz_c (Z 2 0 (dz_c a1)) ≠ 59 then (some 0) else (some 4)) else (if 57 < dz_c (Z 2 0 (dz_c a1)) then (if dz_c (Z 2 0 (dz_c a1)) ≠ 59 then (some 0) else (some 4)) else (some 3))) else (some 2)) else none) else (some 1)
set_option maxRecDepth 20000 in
theorem jw_R_kindAt {X : Option (List Int32)} {D : Nat} {Q : Option Value → mm_H → Prop} (a1 : Int) (Z : dz_Z) (H : dz_p (jf_R_kindAt a1 Z) (fun q => Q (some (dz_I q)) (hz_0 Z))) : mm_Wp X D mm_r32 0 [some (.ref 1), some (dz_I a1), none] [] (hz_0 Z) Q := by
  unfold jf_R_kindAt at H
  refine wp_s (i := .iload_n 1) (n := 1) (pc' := 1) (st' := [dz_I a1]) rfl rfl ?_
  refine wp_s (i := .aload_n 0) (n := 1) (pc' := 2) (st' := [.ref 1, dz_I a1]) rfl rfl ?_
  refine wq_gr (idx := 12) (a := 2) (pc' := 5) rfl rfl ho_R rfl rfl ?_
  refine wq_gi (idx := 53) (pc' := 8) rfl rfl ho_T rfl rfl ?_
  refine wq_ic (p := dz_c a1 < dz_c (Z 2 1 0)) (tt := 13) (pc' := 11) rfl rfl (cq_lt rfl rfl) rfl (fun c1 => ?_) (fun c1 => ?_)
  · replace H := dz_it c1 H
    refine wp_s (i := .aload_n 0) (n := 1) (pc' := 14) (st' := [.ref 1]) rfl rfl ?_
    refine wq_gr (idx := 12) (a := 2) (pc' := 17) rfl rfl ho_R rfl rfl ?_
    refine wq_gr (idx := 56) (a := 3) (pc' := 20) rfl rfl ho_T rfl rfl ?_
    refine wp_s (i := .iload_n 1) (n := 1) (pc' := 21) (st' := [dz_I a1, .ref 3]) rfl rfl ?_
    obtain ⟨k2, H⟩ := dz_ck H
    refine wq_ba (j' := dz_c a1) (pc' := 22) rfl (by decide) ha_T_0 rfl k2.1 k2.2 rfl ?_
    refine wq_st (k := 2) (i := .istore_n 2) (n := 1) (ls' := [some (.ref 1), some (dz_I a1), some (dz_I (Z 2 0 (dz_c a1)))]) (pc' := 23) rfl rfl rfl rfl rfl ?_
    refine wp_s (i := .iload_n 2) (n := 1) (pc' := 24) (st' := [dz_I (Z 2 0 (dz_c a1))]) rfl rfl ?_
    refine wp_s (i := .bipush 97) (n := 2) (pc' := 26) (st' := [dz_I 97, dz_I (Z 2 0 (dz_c a1))]) rfl rfl ?_
    refine wq_ic (p := dz_c (Z 2 0 (dz_c a1)) < 97) (tt := 37) (pc' := 29) rfl rfl (cq_lt rfl dk_97) rfl (fun c3 => ?_) (fun c3 => ?_)
    · replace H := dz_it c3 H
      refine wp_s (i := .iload_n 2) (n := 1) (pc' := 38) (st' := [dz_I (Z 2 0 (dz_c a1))]) rfl rfl ?_
      refine wp_s (i := .bipush 48) (n := 2) (pc' := 40) (st' := [dz_I 48, dz_I (Z 2 0 (dz_c a1))]) rfl rfl ?_
      refine wq_ic (p := dz_c (Z 2 0 (dz_c a1)) < 48) (tt := 51) (pc' := 43) rfl rfl (cq_lt rfl dk_48) rfl (fun c4 => ?_) (fun c4 => ?_)
      · replace H := dz_it c4 H
        refine wp_s (i := .iload_n 2) (n := 1) (pc' := 52) (st' := [dz_I (Z 2 0 (dz_c a1))]) rfl rfl ?_
        refine wp_s (i := .bipush 59) (n := 2) (pc' := 54) (st' := [dz_I 59, dz_I (Z 2 0 (dz_c a1))]) rfl rfl ?_
        refine wq_ic (p := dz_c (Z 2 0 (dz_c a1)) ≠ 59) (tt := 61) (pc' := 57) rfl rfl (cq_ne rfl dk_59) rfl (fun c5 => ?_) (fun c5 => ?_)
        · replace H := dz_it c5 H
          refine wp_s (i := .iconst 0) (n := 1) (pc' := 62) (st' := [dz_I 0]) rfl rfl ?_
          refine wq_ri rfl rfl ?_
          replace H := dz_sm H
          exact H
        · replace H := dz_if c5 H
          refine wp_s (i := .iconst 4) (n := 1) (pc' := 58) (st' := [dz_I 4]) rfl rfl ?_
          refine wp_s (i := .goto 4) (n := 3) (pc' := 62) (st' := [dz_I 4]) rfl rfl ?_
          refine wq_ri rfl rfl ?_
          replace H := dz_sm H
          exact H
      · replace H := dz_if c4 H
        refine wp_s (i := .iload_n 2) (n := 1) (pc' := 44) (st' := [dz_I (Z 2 0 (dz_c a1))]) rfl rfl ?_
        refine wp_s (i := .bipush 57) (n := 2) (pc' := 46) (st' := [dz_I 57, dz_I (Z 2 0 (dz_c a1))]) rfl rfl ?_
        refine wq_ic (p := 57 < dz_c (Z 2 0 (dz_c a1))) (tt := 51) (pc' := 49) rfl rfl (cq_gt rfl dk_57) rfl (fun c6 => ?_) (fun c6 => ?_)
        · replace H := dz_it c6 H
          refine wp_s (i := .iload_n 2) (n := 1) (pc' := 52) (st' := [dz_I (Z 2 0 (dz_c a1))]) rfl rfl ?_
          refine wp_s (i := .bipush 59) (n := 2) (pc' := 54) (st' := [dz_I 59, dz_I (Z 2 0 (dz_c a1))]) rfl rfl ?_
          refine wq_ic (p := dz_c (Z 2 0 (dz_c a1)) ≠ 59) (tt := 61) (pc' := 57) rfl rfl (cq_ne rfl dk_59) rfl (fun c7 => ?_) (fun c7 => ?_)
          · replace H := dz_it c7 H
            refine wp_s (i := .iconst 0) (n := 1) (pc' := 62) (st' := [dz_I 0]) rfl rfl ?_
            refine wq_ri rfl rfl ?_
            replace H := dz_sm H
            exact H
          · replace H := dz_if c7 H
            refine wp_s (i := .iconst 4) (n := 1) (pc' := 58) (st' := [dz_I 4]) rfl rfl ?_
            refine wp_s (i := .goto 4) (n := 3) (pc' := 62) (st' := [dz_I 4]) rfl rfl ?_
            refine wq_ri rfl rfl ?_
            replace H := dz_sm H
            exact H
        · replace H := dz_if c6 H
          refine wp_s (i := .iconst 3) (n := 1) (pc' := 50) (st' := [dz_I 3]) rfl rfl ?_
          refine wq_ri rfl rfl ?_
          replace H := dz_sm H
          exact H
    · replace H := dz_if c3 H
      refine wp_s (i := .iload_n 2) (n := 1) (pc' := 30) (st' := [dz_I (Z 2 0 (dz_c a1))]) rfl rfl ?_
      refine wp_s (i := .bipush 122) (n := 2) (pc' := 32) (st' := [dz_I 122, dz_I (Z 2 0 (dz_c a1))]) rfl rfl ?_
      refine wq_ic (p := 122 < dz_c (Z 2 0 (dz_c a1))) (tt := 37) (pc' := 35) rfl rfl (cq_gt rfl dk_122) rfl (fun c8 => ?_) (fun c8 => ?_)
      · replace H := dz_it c8 H
        refine wp_s (i := .iload_n 2) (n := 1) (pc' := 38) (st' := [dz_I (Z 2 0 (dz_c a1))]) rfl rfl ?_
        refine wp_s (i := .bipush 48) (n := 2) (pc' := 40) (st' := [dz_I 48, dz_I (Z 2 0 (dz_c a1))]) rfl rfl ?_
        refine wq_ic (p := dz_c (Z 2 0 (dz_c a1)) < 48) (tt := 51) (pc' := 43) rfl rfl (cq_lt rfl dk_48) rfl (fun c9 => ?_) (fun c9 => ?_)
        · replace H := dz_it c9 H
          refine wp_s (i := .iload_n 2) (n := 1) (pc' := 52) (st' := [dz_I (Z 2 0 (dz_c a1))]) rfl rfl ?_
          refine wp_s (i := .bipush 59) (n := 2) (pc' := 54) (st' := [dz_I 59, dz_I (Z 2 0 (dz_c a1))]) rfl rfl ?_
          refine wq_ic (p := dz_c (Z 2 0 (dz_c a1)) ≠ 59) (tt := 61) (pc' := 57) rfl rfl (cq_ne rfl dk_59) rfl (fun c10 => ?_) (fun c10 => ?_)
          · replace H := dz_it c10 H
            refine wp_s (i := .iconst 0) (n := 1) (pc' := 62) (st' := [dz_I 0]) rfl rfl ?_
            refine wq_ri rfl rfl ?_
            replace H := dz_sm H
            exact H
          · replace H := dz_if c10 H
            refine wp_s (i := .iconst 4) (n := 1) (pc' := 58) (st' := [dz_I 4]) rfl rfl ?_
            refine wp_s (i := .goto 4) (n := 3) (pc' := 62) (st' := [dz_I 4]) rfl rfl ?_
            refine wq_ri rfl rfl ?_
            replace H := dz_sm H
            exact H
        · replace H := dz_if c9 H
          refine wp_s (i := .iload_n 2) (n := 1) (pc' := 44) (st' := [dz_I (Z 2 0 (dz_c a1))]) rfl rfl ?_
          refine wp_s (i := .bipush 57) (n := 2) (pc' := 46) (st' := [dz_I 57, dz_I (Z 2 0 (dz_c a1))]) rfl rfl ?_
          refine wq_ic (p := 57 < dz_c (Z 2 0 (dz_c a1))) (tt := 51) (pc' := 49) rfl rfl (cq_gt rfl dk_57) rfl (fun c11 => ?_) (fun c11 => ?_)
          · replace H := dz_it c11 H
            refine wp_s (i := .iload_n 2) (n := 1) (pc' := 52) (st' := [dz_I (Z 2 0 (dz_c a1))]) rfl rfl ?_
            refine wp_s (i := .bipush 59) (n := 2) (pc' := 54) (st' := [dz_I 59, dz_I (Z 2 0 (dz_c a1))]) rfl rfl ?_
            refine wq_ic (p := dz_c (Z 2 0 (dz_c a1)) ≠ 59) (tt := 61) (pc' := 57) rfl rfl (cq_ne rfl dk_59) rfl (fun c12 => ?_) (fun c12 => ?_)
            · replace H := dz_it c12 H
              refine wp_s (i := .iconst 0) (n := 1) (pc' := 62) (st' := [dz_I 0]) rfl rfl ?_
              refine wq_ri rfl rfl ?_
              replace H := dz_sm H
              exact H
            · replace H := dz_if c12 H
              refine wp_s (i := .iconst 4) (n := 1) (pc' := 58) (st' := [dz_I 4]) rfl rfl ?_
              refine wp_s (i := .goto 4) (n := 3) (pc' := 62) (st' := [dz_I 4]) rfl rfl ?_
              refine wq_ri rfl rfl ?_
              replace H := dz_sm H
              exact H
          · replace H := dz_if c11 H
            refine wp_s (i := .iconst 3) (n := 1) (pc' := 50) (st' := [dz_I 3]) rfl rfl ?_
            refine wq_ri rfl rfl ?_
            replace H := dz_sm H
            exact H
      · replace H := dz_if c8 H
        refine wp_s (i := .iconst 2) (n := 1) (pc' := 36) (st' := [dz_I 2]) rfl rfl ?_
        refine wq_ri rfl rfl ?_
        replace H := dz_sm H
        exact H
  · replace H := dz_if c1 H
    refine wp_s (i := .iconst 1) (n := 1) (pc' := 12) (st' := [dz_I 1]) rfl rfl ?_
    refine wq_ri rfl rfl ?_
    replace H := dz_sm H
    exact H
-- 31
def jf_R_nextToken (Z : dz_Z) : Option (Bool × dz_Z) := dz_lp (fun (s1 : dz_Z) => if dz_c (s1 2 1 0) ≤ dz_c (s1 1 6 0) then (dz_a (dz_u s1 1 7 0 (s1 1 6 0)) fun Z3 => Option.bind (jf_R_kindAt (Z3 1 6 0) Z3) fun q4 => dz_a (dz_u Z3 1 8 0 q4) fun Z5 => Option.bind (α := dz_Z) (if dz_c (Z5 1 8 0) = 2 then (dz_lp (fun (s33 : dz_Z) => if dz_c (s33 2 1 0) ≤ dz_c (s33 1 6 0) then (some (Sum.inr s33)) else (Option.bind (jf_R_kindAt (s33 1 6 0) s33) fun q35 => if dz_c q35 ≠ dz_c (s33 1 8 0) then (some (Sum.inr s33)) else (dz_a (dz_u s33 1 6 0 ((s33 1 6 0) + 1)) fun Z37 => some (Sum.inl Z37)))) 5000 Z5) else (if dz_c (Z5 1 8 0) ≠ 3 then (if dz_c (Z5 1 8 0) ≠ 4 then (some Z5) else (dz_a (dz_u Z5 1 6 0 ((Z5 1 6 0) + 1)) fun Z40 => some Z40)) else (dz_lp (fun (s41 : dz_Z) => if dz_c (s41 2 1 0) ≤ dz_c (s41 1 6 0) then (some (Sum.inr s41)) else (Option.bind (jf_R_kindAt (s41 1 6 0) s41) fun q43 => if dz_c q43 ≠ dz_c (s41 1 8 0) then (some (Sum.inr s41)) else (dz_a (dz_u s41 1 6 0 ((s41 1 6 0) + 1)) fun Z45 => some (Sum.inl Z45)))) 5000 Z5))) (fun (q20 : dz_Z) => Option.bind (α := Int) (if dz_c (q20 1 8 0) ≠ 3 then (some 0) else (if dz_c ((q20 1 6 0) - (q20 1 7 0)) ≤ 3 then (some 0) else (some 1))) (fun (q23 : Int) => if dz_c (q20 1 8 0) = 0 then (Option.bind (jf_R_fail 1 q20) fun q25 => if q25.1 = false then (some (Sum.inr (false, q25.2))) else (some (Sum.inr (true, q25.2)))) else (if dz_c q23 = 0 then (some (Sum.inr (true, q20))) else (Option.bind (jf_R_fail 1 q20) fun q28 => if q28.1 = false then (some (Sum.inr (false, q28.2))) else (some (Sum.inr (true, q28.2)))))))) else (if 0 ≤ dz_c (s1 1 6 0) ∧ dz_c (s1 1 6 0) < 320 then if dz_c (s1 2 0 (dz_c (s1 1 6 0))) ≠ 32 then (dz_a (dz_u s1 1 7 0 (s1 1 6 0)) fun Z48 => Option.bind (jf_R_kindAt (Z48 1 6 0) Z48) fun q49 => dz_a (dz_u Z48 1 8 0 q49) fun Z50 => Option.bind (α := dz_Z) (if dz_c (Z50 1 8 0) = 2 then (dz_lp (fun (s78 : dz_Z) => if dz_c (s78 2 1 0) ≤ dz_c (s78 1 6 0) then (some (Sum.inr s78)) else (Option.bind (jf_R_kindAt (s78 1 6 0) s78) fun q80 => if dz_c q80 ≠ dz_c (s78 1 8 0) then (some (Sum.inr s78)) else (dz_a (dz_u s78 1 6 0 ((s78 1 6 0) + 1)) fun Z82 => some (Sum.inl Z82)))) 5000 Z50) else (if dz_c (Z50 1 8 0) ≠ 3 then (if dz_c (Z50 1 8 0) ≠ 4 then (some Z50) else (dz_a (dz_u Z50 1 6 0 ((Z50 1 6 0) + 1)) fun Z85 => some Z85)) else (dz_lp (fun (s86 : dz_Z) => if dz_c (s86 2 1 0) ≤ dz_c (s86 1 6 0) then (some (Sum.inr s86)) else (Option.bind (jf_R_kindAt (s86 1 6 0) s86) fun q88 => if dz_c q88 ≠ dz_c (s86 1 8 0) then (some (Sum.inr s86)) else (dz_a (dz_u s86 1 6 0 ((s86 1 6 0) + 1)) fun Z90 => some (Sum.inl Z90)))) 5000 Z50))) (fun (q65 : dz_Z) => Option.bind (α := Int) (if dz_c (q65 1 8 0) ≠ 3 then (some 0) else (if dz_c ((q65 1 6 0) - (q65 1 7 0)) ≤ 3 then (some 0) else (some 1))) (fun (q68 : Int) => if dz_c (q65 1 8 0) = 0 then (Option.bind (jf_R_fail 1 q65) fun q70 => if q70.1 = false then (some (Sum.inr (false, q70.2))) else (some (Sum.inr (true, q70.2)))) else (if dz_c q68 = 0 then (some (Sum.inr (true, q65))) else (Option.bind (jf_R_fail 1 q65) fun q73 => if q73.1 = false then (some (Sum.inr (false, q73.2))) else (some (Sum.inr (true, q73.2)))))))) else (dz_a (dz_u s1 1 6 0 ((s1 1 6 0) + 1)) fun Z91 => some (Sum.inl Z91)) else none)) 5000 Z
set_option maxRecDepth 20000 in
theorem jw_R_nextToken {X : Option (List Int32)} {D : Nat} {Q : Option Value → mm_H → Prop} (Z : dz_Z) (H : dz_p (jf_R_nextToken Z) (fun q => Q (some (dz_B q.1)) (hz_0 q.2))) : mm_Wp X (D + 1) mm_r31 0 [some (.ref 1), none] [] (hz_0 Z) Q := by
  unfold jf_R_nextToken at H
  refine dz_lpi (P := fun (s1 : dz_Z) => mm_Wp X (D + 1) mm_r31 0 [some (.ref 1), none] [] (hz_0 s1) Q) (fun s1 H => ?_) 5000 Z H
  refine wp_s (i := .aload_n 0) (n := 1) (pc' := 1) (st' := [.ref 1]) rfl rfl ?_
  refine wq_gi (idx := 47) (pc' := 4) rfl rfl ho_R rfl rfl ?_
  refine wp_s (i := .aload_n 0) (n := 1) (pc' := 5) (st' := [.ref 1, dz_I (s1 1 6 0)]) rfl rfl ?_
  refine wq_gr (idx := 12) (a := 2) (pc' := 8) rfl rfl ho_R rfl rfl ?_
  refine wq_gi (idx := 53) (pc' := 11) rfl rfl ho_T rfl rfl ?_
  refine wq_ic (p := dz_c (s1 2 1 0) ≤ dz_c (s1 1 6 0)) (tt := 44) (pc' := 14) rfl rfl (cq_ge rfl rfl) rfl (fun c2 => ?_) (fun c2 => ?_)
  · replace H := dz_it c2 H
    refine wp_s (i := .aload_n 0) (n := 1) (pc' := 45) (st' := [.ref 1]) rfl rfl ?_
    refine wp_s (i := .aload_n 0) (n := 1) (pc' := 46) (st' := [.ref 1, .ref 1]) rfl rfl ?_
    refine wq_gi (idx := 47) (pc' := 49) rfl rfl ho_R rfl rfl ?_
    refine wq_pi (idx := 50) (x := s1 1 6 0) (pc' := 52) rfl rfl rfl ho_R rfl rfl rfl rfl (fun Z3 eZ3 => ?_)
    replace H := dz_le H Z3 eZ3
    clear eZ3
    refine wp_s (i := .aload_n 0) (n := 1) (pc' := 53) (st' := [.ref 1]) rfl rfl ?_
    refine wp_s (i := .aload_n 0) (n := 1) (pc' := 54) (st' := [.ref 1, .ref 1]) rfl rfl ?_
    refine wp_s (i := .aload_n 0) (n := 1) (pc' := 55) (st' := [.ref 1, .ref 1, .ref 1]) rfl rfl ?_
    refine wq_gi (idx := 47) (pc' := 58) rfl rfl ho_R rfl rfl ?_
    refine wq_cv (Dq := D) (r' := mm_r32) (as0 := [dz_I (Z3 1 6 0)]) (rest := [.ref 1]) (ls' := [some (.ref 1), some (dz_I (Z3 1 6 0)), none]) (pc' := 61) rfl rfl rfl rfl ho_R rfl rfl rfl ?_
    refine jw_R_kindAt (X := X) (D := D + 0) (Z3 1 6 0) Z3 (dz_pm (dz_bi H) (fun q4 H => ?_))
    show mm_Wp X (D + 1) mm_r31 61 [some (.ref 1), none] [dz_I q4, .ref 1] (hz_0 Z3) Q
    refine wq_pi (idx := 64) (x := q4) (pc' := 64) rfl rfl rfl ho_R rfl rfl rfl rfl (fun Z5 eZ5 => ?_)
    replace H := dz_le H Z5 eZ5
    clear eZ5
    refine wp_s (i := .aload_n 0) (n := 1) (pc' := 65) (st' := [.ref 1]) rfl rfl ?_
    refine wq_gi (idx := 64) (pc' := 68) rfl rfl ho_R rfl rfl ?_
    refine wp_s (i := .iconst 2) (n := 1) (pc' := 69) (st' := [dz_I 2, dz_I (Z5 1 8 0)]) rfl rfl ?_
    refine dz_jn (P := fun (q20 : dz_Z) => mm_Wp X (D + 1) mm_r31 140 [some (.ref 1), none] [] (hz_0 q20) Q) (dz_bi H) (fun q20 H => ?_) (fun H => ?_)
    · skip
      refine wp_s (i := .aload_n 0) (n := 1) (pc' := 141) (st' := [.ref 1]) rfl rfl ?_
      refine wq_gi (idx := 64) (pc' := 144) rfl rfl ho_R rfl rfl ?_
      refine wp_s (i := .iconst 3) (n := 1) (pc' := 145) (st' := [dz_I 3, dz_I (q20 1 8 0)]) rfl rfl ?_
      refine dz_jn (P := fun (q23 : Int) => mm_Wp X (D + 1) mm_r31 166 [some (.ref 1), none] [dz_I q23] (hz_0 q20) Q) (dz_bi H) (fun q23 H => ?_) (fun H => ?_)
      · skip
        refine wq_st (k := 1) (i := .istore_n 1) (n := 1) (ls' := [some (.ref 1), some (dz_I q23)]) (pc' := 167) rfl rfl rfl rfl rfl ?_
        refine wp_s (i := .aload_n 0) (n := 1) (pc' := 168) (st' := [.ref 1]) rfl rfl ?_
        refine wq_gi (idx := 64) (pc' := 171) rfl rfl ho_R rfl rfl ?_
        refine wq_if (p := dz_c (q20 1 8 0) = 0) (tt := 178) (pc' := 174) rfl rfl (cz_eq rfl) rfl (fun c24 => ?_) (fun c24 => ?_)
        · replace H := dz_it c24 H
          refine wp_s (i := .aload_n 0) (n := 1) (pc' := 179) (st' := [.ref 1]) rfl rfl ?_
          refine wp_s (i := .iconst 1) (n := 1) (pc' := 180) (st' := [dz_I 1, .ref 1]) rfl rfl ?_
          refine wq_cv (Dq := D) (r' := mm_r30) (as0 := [dz_I 1]) (rest := []) (ls' := [some (.ref 1), some (dz_I 1)]) (pc' := 183) rfl rfl rfl rfl ho_R rfl rfl rfl ?_
          refine jw_R_fail (X := X) (D := D + 0) 1 q20 (dz_pm (dz_bi H) (fun q25 H => ?_))
          show mm_Wp X (D + 1) mm_r31 183 [some (.ref 1), some (dz_I q23)] [dz_B q25.1] (hz_0 q25.2) Q
          refine wq_if (p := q25.1 = false) (tt := 190) (pc' := 186) rfl rfl (cb_eq) rfl (fun c26 => ?_) (fun c26 => ?_)
          · replace H := dz_it c26 H
            refine wp_s (i := .iconst 0) (n := 1) (pc' := 191) (st' := [dz_I 0]) rfl rfl ?_
            refine wq_rf rfl rfl ?_
            replace H := dz_out H
            replace H := dz_sm H
            exact H
          · replace H := dz_if c26 H
            refine wp_s (i := .iconst 1) (n := 1) (pc' := 187) (st' := [dz_I 1]) rfl rfl ?_
            refine wp_s (i := .goto 4) (n := 3) (pc' := 191) (st' := [dz_I 1]) rfl rfl ?_
            refine wq_rt rfl rfl ?_
            replace H := dz_out H
            replace H := dz_sm H
            exact H
        · replace H := dz_if c24 H
          refine wp_s (i := .iload_n 1) (n := 1) (pc' := 175) (st' := [dz_I q23]) rfl rfl ?_
          refine wq_if (p := dz_c q23 = 0) (tt := 186) (pc' := 178) rfl rfl (cz_eq rfl) rfl (fun c27 => ?_) (fun c27 => ?_)
          · replace H := dz_it c27 H
            refine wp_s (i := .iconst 1) (n := 1) (pc' := 187) (st' := [dz_I 1]) rfl rfl ?_
            refine wp_s (i := .goto 4) (n := 3) (pc' := 191) (st' := [dz_I 1]) rfl rfl ?_
            refine wq_rt rfl rfl ?_
            replace H := dz_out H
            replace H := dz_sm H
            exact H
          · replace H := dz_if c27 H
            refine wp_s (i := .aload_n 0) (n := 1) (pc' := 179) (st' := [.ref 1]) rfl rfl ?_
            refine wp_s (i := .iconst 1) (n := 1) (pc' := 180) (st' := [dz_I 1, .ref 1]) rfl rfl ?_
            refine wq_cv (Dq := D) (r' := mm_r30) (as0 := [dz_I 1]) (rest := []) (ls' := [some (.ref 1), some (dz_I 1)]) (pc' := 183) rfl rfl rfl rfl ho_R rfl rfl rfl ?_
            refine jw_R_fail (X := X) (D := D + 0) 1 q20 (dz_pm (dz_bi H) (fun q28 H => ?_))
            show mm_Wp X (D + 1) mm_r31 183 [some (.ref 1), some (dz_I q23)] [dz_B q28.1] (hz_0 q28.2) Q
            refine wq_if (p := q28.1 = false) (tt := 190) (pc' := 186) rfl rfl (cb_eq) rfl (fun c29 => ?_) (fun c29 => ?_)
            · replace H := dz_it c29 H
              refine wp_s (i := .iconst 0) (n := 1) (pc' := 191) (st' := [dz_I 0]) rfl rfl ?_
              refine wq_rf rfl rfl ?_
              replace H := dz_out H
              replace H := dz_sm H
              exact H
            · replace H := dz_if c29 H
              refine wp_s (i := .iconst 1) (n := 1) (pc' := 187) (st' := [dz_I 1]) rfl rfl ?_
              refine wp_s (i := .goto 4) (n := 3) (pc' := 191) (st' := [dz_I 1]) rfl rfl ?_
              refine wq_rt rfl rfl ?_
              replace H := dz_out H
              replace H := dz_sm H
              exact H
      · skip
        refine wq_ic (p := dz_c (q20 1 8 0) ≠ 3) (tt := 165) (pc' := 148) rfl rfl (cq_ne rfl dk_3) rfl (fun c30 => ?_) (fun c30 => ?_)
        · replace H := dz_it c30 H
          refine wp_s (i := .iconst 0) (n := 1) (pc' := 166) (st' := [dz_I 0]) rfl rfl ?_
          replace H := dz_sm H
          exact H
        · replace H := dz_if c30 H
          refine wp_s (i := .aload_n 0) (n := 1) (pc' := 149) (st' := [.ref 1]) rfl rfl ?_
          refine wq_gi (idx := 47) (pc' := 152) rfl rfl ho_R rfl rfl ?_
          refine wp_s (i := .aload_n 0) (n := 1) (pc' := 153) (st' := [.ref 1, dz_I (q20 1 6 0)]) rfl rfl ?_
          refine wq_gi (idx := 50) (pc' := 156) rfl rfl ho_R rfl rfl ?_
          refine wq_2 (i := .isub) (z := (q20 1 6 0) - (q20 1 7 0)) (pc' := 157) rfl rfl (op_sub _ _) rfl ?_
          refine wp_s (i := .iconst 3) (n := 1) (pc' := 158) (st' := [dz_I 3, dz_I ((q20 1 6 0) - (q20 1 7 0))]) rfl rfl ?_
          refine wq_ic (p := dz_c ((q20 1 6 0) - (q20 1 7 0)) ≤ 3) (tt := 165) (pc' := 161) rfl rfl (cq_le rfl dk_3) rfl (fun c31 => ?_) (fun c31 => ?_)
          · replace H := dz_it c31 H
            refine wp_s (i := .iconst 0) (n := 1) (pc' := 166) (st' := [dz_I 0]) rfl rfl ?_
            replace H := dz_sm H
            exact H
          · replace H := dz_if c31 H
            refine wp_s (i := .iconst 1) (n := 1) (pc' := 162) (st' := [dz_I 1]) rfl rfl ?_
            refine wp_s (i := .goto 4) (n := 3) (pc' := 166) (st' := [dz_I 1]) rfl rfl ?_
            replace H := dz_sm H
            exact H
    · skip
      refine wq_ic (p := dz_c (Z5 1 8 0) = 2) (tt := 80) (pc' := 72) rfl rfl (cq_eq rfl dk_2) rfl (fun c32 => ?_) (fun c32 => ?_)
      · replace H := dz_it c32 H
        refine dz_lpi (P := fun (s33 : dz_Z) => mm_Wp X (D + 1) mm_r31 80 [some (.ref 1), none] [] (hz_0 s33) Q) (fun s33 H => ?_) 5000 Z5 H
        refine wp_s (i := .aload_n 0) (n := 1) (pc' := 81) (st' := [.ref 1]) rfl rfl ?_
        refine wq_gi (idx := 47) (pc' := 84) rfl rfl ho_R rfl rfl ?_
        refine wp_s (i := .aload_n 0) (n := 1) (pc' := 85) (st' := [.ref 1, dz_I (s33 1 6 0)]) rfl rfl ?_
        refine wq_gr (idx := 12) (a := 2) (pc' := 88) rfl rfl ho_R rfl rfl ?_
        refine wq_gi (idx := 53) (pc' := 91) rfl rfl ho_T rfl rfl ?_
        refine wq_ic (p := dz_c (s33 2 1 0) ≤ dz_c (s33 1 6 0)) (tt := 140) (pc' := 94) rfl rfl (cq_ge rfl rfl) rfl (fun c34 => ?_) (fun c34 => ?_)
        · replace H := dz_it c34 H
          replace H := dz_out H
          replace H := dz_sm H
          exact H
        · replace H := dz_if c34 H
          refine wp_s (i := .aload_n 0) (n := 1) (pc' := 95) (st' := [.ref 1]) rfl rfl ?_
          refine wp_s (i := .aload_n 0) (n := 1) (pc' := 96) (st' := [.ref 1, .ref 1]) rfl rfl ?_
          refine wq_gi (idx := 47) (pc' := 99) rfl rfl ho_R rfl rfl ?_
          refine wq_cv (Dq := D) (r' := mm_r32) (as0 := [dz_I (s33 1 6 0)]) (rest := []) (ls' := [some (.ref 1), some (dz_I (s33 1 6 0)), none]) (pc' := 102) rfl rfl rfl rfl ho_R rfl rfl rfl ?_
          refine jw_R_kindAt (X := X) (D := D + 0) (s33 1 6 0) s33 (dz_pm (dz_bi H) (fun q35 H => ?_))
          show mm_Wp X (D + 1) mm_r31 102 [some (.ref 1), none] [dz_I q35] (hz_0 s33) Q
          refine wp_s (i := .aload_n 0) (n := 1) (pc' := 103) (st' := [.ref 1, dz_I q35]) rfl rfl ?_
          refine wq_gi (idx := 64) (pc' := 106) rfl rfl ho_R rfl rfl ?_
          refine wq_ic (p := dz_c q35 ≠ dz_c (s33 1 8 0)) (tt := 140) (pc' := 109) rfl rfl (cq_ne rfl rfl) rfl (fun c36 => ?_) (fun c36 => ?_)
          · replace H := dz_it c36 H
            replace H := dz_out H
            replace H := dz_sm H
            exact H
          · replace H := dz_if c36 H
            refine wp_s (i := .aload_n 0) (n := 1) (pc' := 110) (st' := [.ref 1]) rfl rfl ?_
            refine wp_s (i := .dup) (n := 1) (pc' := 111) (st' := [.ref 1, .ref 1]) rfl rfl ?_
            refine wq_gi (idx := 47) (pc' := 114) rfl rfl ho_R rfl rfl ?_
            refine wp_s (i := .iconst 1) (n := 1) (pc' := 115) (st' := [dz_I 1, dz_I (s33 1 6 0), .ref 1]) rfl rfl ?_
            refine wq_2 (i := .iadd) (z := (s33 1 6 0) + 1) (pc' := 116) rfl rfl (op_add _ _) rfl ?_
            refine wq_pi (idx := 47) (x := (s33 1 6 0) + 1) (pc' := 119) rfl rfl rfl ho_R rfl rfl rfl rfl (fun Z37 eZ37 => ?_)
            replace H := dz_le H Z37 eZ37
            clear eZ37
            refine wp_s (i := .goto (-39)) (n := 3) (pc' := 80) (st' := []) rfl rfl ?_
            replace H := dz_back H
            exact H
      · replace H := dz_if c32 H
        refine wp_s (i := .aload_n 0) (n := 1) (pc' := 73) (st' := [.ref 1]) rfl rfl ?_
        refine wq_gi (idx := 64) (pc' := 76) rfl rfl ho_R rfl rfl ?_
        refine wp_s (i := .iconst 3) (n := 1) (pc' := 77) (st' := [dz_I 3, dz_I (Z5 1 8 0)]) rfl rfl ?_
        refine wq_ic (p := dz_c (Z5 1 8 0) ≠ 3) (tt := 122) (pc' := 80) rfl rfl (cq_ne rfl dk_3) rfl (fun c38 => ?_) (fun c38 => ?_)
        · replace H := dz_it c38 H
          refine wp_s (i := .aload_n 0) (n := 1) (pc' := 123) (st' := [.ref 1]) rfl rfl ?_
          refine wq_gi (idx := 64) (pc' := 126) rfl rfl ho_R rfl rfl ?_
          refine wp_s (i := .iconst 4) (n := 1) (pc' := 127) (st' := [dz_I 4, dz_I (Z5 1 8 0)]) rfl rfl ?_
          refine wq_ic (p := dz_c (Z5 1 8 0) ≠ 4) (tt := 140) (pc' := 130) rfl rfl (cq_ne rfl dk_4) rfl (fun c39 => ?_) (fun c39 => ?_)
          · replace H := dz_it c39 H
            replace H := dz_sm H
            exact H
          · replace H := dz_if c39 H
            refine wp_s (i := .aload_n 0) (n := 1) (pc' := 131) (st' := [.ref 1]) rfl rfl ?_
            refine wp_s (i := .dup) (n := 1) (pc' := 132) (st' := [.ref 1, .ref 1]) rfl rfl ?_
            refine wq_gi (idx := 47) (pc' := 135) rfl rfl ho_R rfl rfl ?_
            refine wp_s (i := .iconst 1) (n := 1) (pc' := 136) (st' := [dz_I 1, dz_I (Z5 1 6 0), .ref 1]) rfl rfl ?_
            refine wq_2 (i := .iadd) (z := (Z5 1 6 0) + 1) (pc' := 137) rfl rfl (op_add _ _) rfl ?_
            refine wq_pi (idx := 47) (x := (Z5 1 6 0) + 1) (pc' := 140) rfl rfl rfl ho_R rfl rfl rfl rfl (fun Z40 eZ40 => ?_)
            replace H := dz_le H Z40 eZ40
            clear eZ40
            replace H := dz_sm H
            exact H
        · replace H := dz_if c38 H
          refine dz_lpi (P := fun (s41 : dz_Z) => mm_Wp X (D + 1) mm_r31 80 [some (.ref 1), none] [] (hz_0 s41) Q) (fun s41 H => ?_) 5000 Z5 H
          refine wp_s (i := .aload_n 0) (n := 1) (pc' := 81) (st' := [.ref 1]) rfl rfl ?_
          refine wq_gi (idx := 47) (pc' := 84) rfl rfl ho_R rfl rfl ?_
          refine wp_s (i := .aload_n 0) (n := 1) (pc' := 85) (st' := [.ref 1, dz_I (s41 1 6 0)]) rfl rfl ?_
          refine wq_gr (idx := 12) (a := 2) (pc' := 88) rfl rfl ho_R rfl rfl ?_
          refine wq_gi (idx := 53) (pc' := 91) rfl rfl ho_T rfl rfl ?_
          refine wq_ic (p := dz_c (s41 2 1 0) ≤ dz_c (s41 1 6 0)) (tt := 140) (pc' := 94) rfl rfl (cq_ge rfl rfl) rfl (fun c42 => ?_) (fun c42 => ?_)
          · replace H := dz_it c42 H
            replace H := dz_out H
            replace H := dz_sm H
            exact H
          · replace H := dz_if c42 H
            refine wp_s (i := .aload_n 0) (n := 1) (pc' := 95) (st' := [.ref 1]) rfl rfl ?_
            refine wp_s (i := .aload_n 0) (n := 1) (pc' := 96) (st' := [.ref 1, .ref 1]) rfl rfl ?_
            refine wq_gi (idx := 47) (pc' := 99) rfl rfl ho_R rfl rfl ?_
            refine wq_cv (Dq := D) (r' := mm_r32) (as0 := [dz_I (s41 1 6 0)]) (rest := []) (ls' := [some (.ref 1), some (dz_I (s41 1 6 0)), none]) (pc' := 102) rfl rfl rfl rfl ho_R rfl rfl rfl ?_
            refine jw_R_kindAt (X := X) (D := D + 0) (s41 1 6 0) s41 (dz_pm (dz_bi H) (fun q43 H => ?_))
            show mm_Wp X (D + 1) mm_r31 102 [some (.ref 1), none] [dz_I q43] (hz_0 s41) Q
            refine wp_s (i := .aload_n 0) (n := 1) (pc' := 103) (st' := [.ref 1, dz_I q43]) rfl rfl ?_
            refine wq_gi (idx := 64) (pc' := 106) rfl rfl ho_R rfl rfl ?_
            refine wq_ic (p := dz_c q43 ≠ dz_c (s41 1 8 0)) (tt := 140) (pc' := 109) rfl rfl (cq_ne rfl rfl) rfl (fun c44 => ?_) (fun c44 => ?_)
            · replace H := dz_it c44 H
              replace H := dz_out H
              replace H := dz_sm H
              exact H
            · replace H := dz_if c44 H
              refine wp_s (i := .aload_n 0) (n := 1) (pc' := 110) (st' := [.ref 1]) rfl rfl ?_
              refine wp_s (i := .dup) (n := 1) (pc' := 111) (st' := [.ref 1, .ref 1]) rfl rfl ?_
              refine wq_gi (idx := 47) (pc' := 114) rfl rfl ho_R rfl rfl ?_
              refine wp_s (i := .iconst 1) (n := 1) (pc' := 115) (st' := [dz_I 1, dz_I (s41 1 6 0), .ref 1]) rfl rfl ?_
              refine wq_2 (i := .iadd) (z := (s41 1 6 0) + 1) (pc' := 116) rfl rfl (op_add _ _) rfl ?_
              refine wq_pi (idx := 47) (x := (s41 1 6 0) + 1) (pc' := 119) rfl rfl rfl ho_R rfl rfl rfl rfl (fun Z45 eZ45 => ?_)
              replace H := dz_le H Z45 eZ45
              clear eZ45
              refine wp_s (i := .goto (-39)) (n := 3) (pc' := 80) (st' := []) rfl rfl ?_
              replace H := dz_back H
              exact H
  · replace H := dz_if c2 H
    refine wp_s (i := .aload_n 0) (n := 1) (pc' := 15) (st' := [.ref 1]) rfl rfl ?_
    refine wq_gr (idx := 12) (a := 2) (pc' := 18) rfl rfl ho_R rfl rfl ?_
    refine wq_gr (idx := 56) (a := 3) (pc' := 21) rfl rfl ho_T rfl rfl ?_
    refine wp_s (i := .aload_n 0) (n := 1) (pc' := 22) (st' := [.ref 1, .ref 3]) rfl rfl ?_
    refine wq_gi (idx := 47) (pc' := 25) rfl rfl ho_R rfl rfl ?_
    obtain ⟨k46, H⟩ := dz_ck H
    refine wq_ba (j' := dz_c (s1 1 6 0)) (pc' := 26) rfl (by decide) ha_T_0 rfl k46.1 k46.2 rfl ?_
    refine wp_s (i := .bipush 32) (n := 2) (pc' := 28) (st' := [dz_I 32, dz_I (s1 2 0 (dz_c (s1 1 6 0)))]) rfl rfl ?_
    refine wq_ic (p := dz_c (s1 2 0 (dz_c (s1 1 6 0))) ≠ 32) (tt := 44) (pc' := 31) rfl rfl (cq_ne rfl dk_32) rfl (fun c47 => ?_) (fun c47 => ?_)
    · replace H := dz_it c47 H
      refine wp_s (i := .aload_n 0) (n := 1) (pc' := 45) (st' := [.ref 1]) rfl rfl ?_
      refine wp_s (i := .aload_n 0) (n := 1) (pc' := 46) (st' := [.ref 1, .ref 1]) rfl rfl ?_
      refine wq_gi (idx := 47) (pc' := 49) rfl rfl ho_R rfl rfl ?_
      refine wq_pi (idx := 50) (x := s1 1 6 0) (pc' := 52) rfl rfl rfl ho_R rfl rfl rfl rfl (fun Z48 eZ48 => ?_)
      replace H := dz_le H Z48 eZ48
      clear eZ48
      refine wp_s (i := .aload_n 0) (n := 1) (pc' := 53) (st' := [.ref 1]) rfl rfl ?_
      refine wp_s (i := .aload_n 0) (n := 1) (pc' := 54) (st' := [.ref 1, .ref 1]) rfl rfl ?_
      refine wp_s (i := .aload_n 0) (n := 1) (pc' := 55) (st' := [.ref 1, .ref 1, .ref 1]) rfl rfl ?_
      refine wq_gi (idx := 47) (pc' := 58) rfl rfl ho_R rfl rfl ?_
      refine wq_cv (Dq := D) (r' := mm_r32) (as0 := [dz_I (Z48 1 6 0)]) (rest := [.ref 1]) (ls' := [some (.ref 1), some (dz_I (Z48 1 6 0)), none]) (pc' := 61) rfl rfl rfl rfl ho_R rfl rfl rfl ?_
      refine jw_R_kindAt (X := X) (D := D + 0) (Z48 1 6 0) Z48 (dz_pm (dz_bi H) (fun q49 H => ?_))
      show mm_Wp X (D + 1) mm_r31 61 [some (.ref 1), none] [dz_I q49, .ref 1] (hz_0 Z48) Q
      refine wq_pi (idx := 64) (x := q49) (pc' := 64) rfl rfl rfl ho_R rfl rfl rfl rfl (fun Z50 eZ50 => ?_)
      replace H := dz_le H Z50 eZ50
      clear eZ50
      refine wp_s (i := .aload_n 0) (n := 1) (pc' := 65) (st' := [.ref 1]) rfl rfl ?_
      refine wq_gi (idx := 64) (pc' := 68) rfl rfl ho_R rfl rfl ?_
      refine wp_s (i := .iconst 2) (n := 1) (pc' := 69) (st' := [dz_I 2, dz_I (Z50 1 8 0)]) rfl rfl ?_
      refine dz_jn (P := fun (q65 : dz_Z) => mm_Wp X (D + 1) mm_r31 140 [some (.ref 1), none] [] (hz_0 q65) Q) (dz_bi H) (fun q65 H => ?_) (fun H => ?_)
      · skip
        refine wp_s (i := .aload_n 0) (n := 1) (pc' := 141) (st' := [.ref 1]) rfl rfl ?_
        refine wq_gi (idx := 64) (pc' := 144) rfl rfl ho_R rfl rfl ?_
        refine wp_s (i := .iconst 3) (n := 1) (pc' := 145) (st' := [dz_I 3, dz_I (q65 1 8 0)]) rfl rfl ?_
        refine dz_jn (P := fun (q68 : Int) => mm_Wp X (D + 1) mm_r31 166 [some (.ref 1), none] [dz_I q68] (hz_0 q65) Q) (dz_bi H) (fun q68 H => ?_) (fun H => ?_)
        · skip
          refine wq_st (k := 1) (i := .istore_n 1) (n := 1) (ls' := [some (.ref 1), some (dz_I q68)]) (pc' := 167) rfl rfl rfl rfl rfl ?_
          refine wp_s (i := .aload_n 0) (n := 1) (pc' := 168) (st' := [.ref 1]) rfl rfl ?_
          refine wq_gi (idx := 64) (pc' := 171) rfl rfl ho_R rfl rfl ?_
          refine wq_if (p := dz_c (q65 1 8 0) = 0) (tt := 178) (pc' := 174) rfl rfl (cz_eq rfl) rfl (fun c69 => ?_) (fun c69 => ?_)
          · replace H := dz_it c69 H
            refine wp_s (i := .aload_n 0) (n := 1) (pc' := 179) (st' := [.ref 1]) rfl rfl ?_
            refine wp_s (i := .iconst 1) (n := 1) (pc' := 180) (st' := [dz_I 1, .ref 1]) rfl rfl ?_
            refine wq_cv (Dq := D) (r' := mm_r30) (as0 := [dz_I 1]) (rest := []) (ls' := [some (.ref 1), some (dz_I 1)]) (pc' := 183) rfl rfl rfl rfl ho_R rfl rfl rfl ?_
            refine jw_R_fail (X := X) (D := D + 0) 1 q65 (dz_pm (dz_bi H) (fun q70 H => ?_))
            show mm_Wp X (D + 1) mm_r31 183 [some (.ref 1), some (dz_I q68)] [dz_B q70.1] (hz_0 q70.2) Q
            refine wq_if (p := q70.1 = false) (tt := 190) (pc' := 186) rfl rfl (cb_eq) rfl (fun c71 => ?_) (fun c71 => ?_)
            · replace H := dz_it c71 H
              refine wp_s (i := .iconst 0) (n := 1) (pc' := 191) (st' := [dz_I 0]) rfl rfl ?_
              refine wq_rf rfl rfl ?_
              replace H := dz_out H
              replace H := dz_sm H
              exact H
            · replace H := dz_if c71 H
              refine wp_s (i := .iconst 1) (n := 1) (pc' := 187) (st' := [dz_I 1]) rfl rfl ?_
              refine wp_s (i := .goto 4) (n := 3) (pc' := 191) (st' := [dz_I 1]) rfl rfl ?_
              refine wq_rt rfl rfl ?_
              replace H := dz_out H
              replace H := dz_sm H
              exact H
          · replace H := dz_if c69 H
            refine wp_s (i := .iload_n 1) (n := 1) (pc' := 175) (st' := [dz_I q68]) rfl rfl ?_
            refine wq_if (p := dz_c q68 = 0) (tt := 186) (pc' := 178) rfl rfl (cz_eq rfl) rfl (fun c72 => ?_) (fun c72 => ?_)
            · replace H := dz_it c72 H
              refine wp_s (i := .iconst 1) (n := 1) (pc' := 187) (st' := [dz_I 1]) rfl rfl ?_
              refine wp_s (i := .goto 4) (n := 3) (pc' := 191) (st' := [dz_I 1]) rfl rfl ?_
              refine wq_rt rfl rfl ?_
              replace H := dz_out H
              replace H := dz_sm H
              exact H
            · replace H := dz_if c72 H
              refine wp_s (i := .aload_n 0) (n := 1) (pc' := 179) (st' := [.ref 1]) rfl rfl ?_
              refine wp_s (i := .iconst 1) (n := 1) (pc' := 180) (st' := [dz_I 1, .ref 1]) rfl rfl ?_
              refine wq_cv (Dq := D) (r' := mm_r30) (as0 := [dz_I 1]) (rest := []) (ls' := [some (.ref 1), some (dz_I 1)]) (pc' := 183) rfl rfl rfl rfl ho_R rfl rfl rfl ?_
              refine jw_R_fail (X := X) (D := D + 0) 1 q65 (dz_pm (dz_bi H) (fun q73 H => ?_))
              show mm_Wp X (D + 1) mm_r31 183 [some (.ref 1), some (dz_I q68)] [dz_B q73.1] (hz_0 q73.2) Q
              refine wq_if (p := q73.1 = false) (tt := 190) (pc' := 186) rfl rfl (cb_eq) rfl (fun c74 => ?_) (fun c74 => ?_)
              · replace H := dz_it c74 H
                refine wp_s (i := .iconst 0) (n := 1) (pc' := 191) (st' := [dz_I 0]) rfl rfl ?_
                refine wq_rf rfl rfl ?_
                replace H := dz_out H
                replace H := dz_sm H
                exact H
              · replace H := dz_if c74 H
                refine wp_s (i := .iconst 1) (n := 1) (pc' := 187) (st' := [dz_I 1]) rfl rfl ?_
                refine wp_s (i := .goto 4) (n := 3) (pc' := 191) (st' := [dz_I 1]) rfl rfl ?_
                refine wq_rt rfl rfl ?_
                replace H := dz_out H
                replace H := dz_sm H
                exact H
        · skip
          refine wq_ic (p := dz_c (q65 1 8 0) ≠ 3) (tt := 165) (pc' := 148) rfl rfl (cq_ne rfl dk_3) rfl (fun c75 => ?_) (fun c75 => ?_)
          · replace H := dz_it c75 H
            refine wp_s (i := .iconst 0) (n := 1) (pc' := 166) (st' := [dz_I 0]) rfl rfl ?_
            replace H := dz_sm H
            exact H
          · replace H := dz_if c75 H
            refine wp_s (i := .aload_n 0) (n := 1) (pc' := 149) (st' := [.ref 1]) rfl rfl ?_
            refine wq_gi (idx := 47) (pc' := 152) rfl rfl ho_R rfl rfl ?_
            refine wp_s (i := .aload_n 0) (n := 1) (pc' := 153) (st' := [.ref 1, dz_I (q65 1 6 0)]) rfl rfl ?_
            refine wq_gi (idx := 50) (pc' := 156) rfl rfl ho_R rfl rfl ?_
            refine wq_2 (i := .isub) (z := (q65 1 6 0) - (q65 1 7 0)) (pc' := 157) rfl rfl (op_sub _ _) rfl ?_
            refine wp_s (i := .iconst 3) (n := 1) (pc' := 158) (st' := [dz_I 3, dz_I ((q65 1 6 0) - (q65 1 7 0))]) rfl rfl ?_
            refine wq_ic (p := dz_c ((q65 1 6 0) - (q65 1 7 0)) ≤ 3) (tt := 165) (pc' := 161) rfl rfl (cq_le rfl dk_3) rfl (fun c76 => ?_) (fun c76 => ?_)
            · replace H := dz_it c76 H
              refine wp_s (i := .iconst 0) (n := 1) (pc' := 166) (st' := [dz_I 0]) rfl rfl ?_
              replace H := dz_sm H
              exact H
            · replace H := dz_if c76 H
              refine wp_s (i := .iconst 1) (n := 1) (pc' := 162) (st' := [dz_I 1]) rfl rfl ?_
              refine wp_s (i := .goto 4) (n := 3) (pc' := 166) (st' := [dz_I 1]) rfl rfl ?_
              replace H := dz_sm H
              exact H
      · skip
        refine wq_ic (p := dz_c (Z50 1 8 0) = 2) (tt := 80) (pc' := 72) rfl rfl (cq_eq rfl dk_2) rfl (fun c77 => ?_) (fun c77 => ?_)
        · replace H := dz_it c77 H
          refine dz_lpi (P := fun (s78 : dz_Z) => mm_Wp X (D + 1) mm_r31 80 [some (.ref 1), none] [] (hz_0 s78) Q) (fun s78 H => ?_) 5000 Z50 H
          refine wp_s (i := .aload_n 0) (n := 1) (pc' := 81) (st' := [.ref 1]) rfl rfl ?_
          refine wq_gi (idx := 47) (pc' := 84) rfl rfl ho_R rfl rfl ?_
          refine wp_s (i := .aload_n 0) (n := 1) (pc' := 85) (st' := [.ref 1, dz_I (s78 1 6 0)]) rfl rfl ?_
          refine wq_gr (idx := 12) (a := 2) (pc' := 88) rfl rfl ho_R rfl rfl ?_
          refine wq_gi (idx := 53) (pc' := 91) rfl rfl ho_T rfl rfl ?_
          refine wq_ic (p := dz_c (s78 2 1 0) ≤ dz_c (s78 1 6 0)) (tt := 140) (pc' := 94) rfl rfl (cq_ge rfl rfl) rfl (fun c79 => ?_) (fun c79 => ?_)
          · replace H := dz_it c79 H
            replace H := dz_out H
            replace H := dz_sm H
            exact H
          · replace H := dz_if c79 H
            refine wp_s (i := .aload_n 0) (n := 1) (pc' := 95) (st' := [.ref 1]) rfl rfl ?_
            refine wp_s (i := .aload_n 0) (n := 1) (pc' := 96) (st' := [.ref 1, .ref 1]) rfl rfl ?_
            refine wq_gi (idx := 47) (pc' := 99) rfl rfl ho_R rfl rfl ?_
            refine wq_cv (Dq := D) (r' := mm_r32) (as0 := [dz_I (s78 1 6 0)]) (rest := []) (ls' := [some (.ref 1), some (dz_I (s78 1 6 0)), none]) (pc' := 102) rfl rfl rfl rfl ho_R rfl rfl rfl ?_
            refine jw_R_kindAt (X := X) (D := D + 0) (s78 1 6 0) s78 (dz_pm (dz_bi H) (fun q80 H => ?_))
            show mm_Wp X (D + 1) mm_r31 102 [some (.ref 1), none] [dz_I q80] (hz_0 s78) Q
            refine wp_s (i := .aload_n 0) (n := 1) (pc' := 103) (st' := [.ref 1, dz_I q80]) rfl rfl ?_
            refine wq_gi (idx := 64) (pc' := 106) rfl rfl ho_R rfl rfl ?_
            refine wq_ic (p := dz_c q80 ≠ dz_c (s78 1 8 0)) (tt := 140) (pc' := 109) rfl rfl (cq_ne rfl rfl) rfl (fun c81 => ?_) (fun c81 => ?_)
            · replace H := dz_it c81 H
              replace H := dz_out H
              replace H := dz_sm H
              exact H
            · replace H := dz_if c81 H
              refine wp_s (i := .aload_n 0) (n := 1) (pc' := 110) (st' := [.ref 1]) rfl rfl ?_
              refine wp_s (i := .dup) (n := 1) (pc' := 111) (st' := [.ref 1, .ref 1]) rfl rfl ?_
              refine wq_gi (idx := 47) (pc' := 114) rfl rfl ho_R rfl rfl ?_
              refine wp_s (i := .iconst 1) (n := 1) (pc' := 115) (st' := [dz_I 1, dz_I (s78 1 6 0), .ref 1]) rfl rfl ?_
              refine wq_2 (i := .iadd) (z := (s78 1 6 0) + 1) (pc' := 116) rfl rfl (op_add _ _) rfl ?_
              refine wq_pi (idx := 47) (x := (s78 1 6 0) + 1) (pc' := 119) rfl rfl rfl ho_R rfl rfl rfl rfl (fun Z82 eZ82 => ?_)
              replace H := dz_le H Z82 eZ82
              clear eZ82
              refine wp_s (i := .goto (-39)) (n := 3) (pc' := 80) (st' := []) rfl rfl ?_
              replace H := dz_back H
              exact H
        · replace H := dz_if c77 H
          refine wp_s (i := .aload_n 0) (n := 1) (pc' := 73) (st' := [.ref 1]) rfl rfl ?_
          refine wq_gi (idx := 64) (pc' := 76) rfl rfl ho_R rfl rfl ?_
          refine wp_s (i := .iconst 3) (n := 1) (pc' := 77) (st' := [dz_I 3, dz_I (Z50 1 8 0)]) rfl rfl ?_
          refine wq_ic (p := dz_c (Z50 1 8 0) ≠ 3) (tt := 122) (pc' := 80) rfl rfl (cq_ne rfl dk_3) rfl (fun c83 => ?_) (fun c83 => ?_)
          · replace H := dz_it c83 H
            refine wp_s (i := .aload_n 0) (n := 1) (pc' := 123) (st' := [.ref 1]) rfl rfl ?_
            refine wq_gi (idx := 64) (pc' := 126) rfl rfl ho_R rfl rfl ?_
            refine wp_s (i := .iconst 4) (n := 1) (pc' := 127) (st' := [dz_I 4, dz_I (Z50 1 8 0)]) rfl rfl ?_
            refine wq_ic (p := dz_c (Z50 1 8 0) ≠ 4) (tt := 140) (pc' := 130) rfl rfl (cq_ne rfl dk_4) rfl (fun c84 => ?_) (fun c84 => ?_)
            · replace H := dz_it c84 H
              replace H := dz_sm H
              exact H
            · replace H := dz_if c84 H
              refine wp_s (i := .aload_n 0) (n := 1) (pc' := 131) (st' := [.ref 1]) rfl rfl ?_
              refine wp_s (i := .dup) (n := 1) (pc' := 132) (st' := [.ref 1, .ref 1]) rfl rfl ?_
              refine wq_gi (idx := 47) (pc' := 135) rfl rfl ho_R rfl rfl ?_
              refine wp_s (i := .iconst 1) (n := 1) (pc' := 136) (st' := [dz_I 1, dz_I (Z50 1 6 0), .ref 1]) rfl rfl ?_
              refine wq_2 (i := .iadd) (z := (Z50 1 6 0) + 1) (pc' := 137) rfl rfl (op_add _ _) rfl ?_
              refine wq_pi (idx := 47) (x := (Z50 1 6 0) + 1) (pc' := 140) rfl rfl rfl ho_R rfl rfl rfl rfl (fun Z85 eZ85 => ?_)
              replace H := dz_le H Z85 eZ85
              clear eZ85
              replace H := dz_sm H
              exact H
          · replace H := dz_if c83 H
            refine dz_lpi (P := fun (s86 : dz_Z) => mm_Wp X (D + 1) mm_r31 80 [some (.ref 1), none] [] (hz_0 s86) Q) (fun s86 H => ?_) 5000 Z50 H
            refine wp_s (i := .aload_n 0) (n := 1) (pc' := 81) (st' := [.ref 1]) rfl rfl ?_
            refine wq_gi (idx := 47) (pc' := 84) rfl rfl ho_R rfl rfl ?_
            refine wp_s (i := .aload_n 0) (n := 1) (pc' := 85) (st' := [.ref 1, dz_I (s86 1 6 0)]) rfl rfl ?_
            refine wq_gr (idx := 12) (a := 2) (pc' := 88) rfl rfl ho_R rfl rfl ?_
            refine wq_gi (idx := 53) (pc' := 91) rfl rfl ho_T rfl rfl ?_
            refine wq_ic (p := dz_c (s86 2 1 0) ≤ dz_c (s86 1 6 0)) (tt := 140) (pc' := 94) rfl rfl (cq_ge rfl rfl) rfl (fun c87 => ?_) (fun c87 => ?_)
            · replace H := dz_it c87 H
              replace H := dz_out H
              replace H := dz_sm H
              exact H
            · replace H := dz_if c87 H
              refine wp_s (i := .aload_n 0) (n := 1) (pc' := 95) (st' := [.ref 1]) rfl rfl ?_
              refine wp_s (i := .aload_n 0) (n := 1) (pc' := 96) (st' := [.ref 1, .ref 1]) rfl rfl ?_
              refine wq_gi (idx := 47) (pc' := 99) rfl rfl ho_R rfl rfl ?_
              refine wq_cv (Dq := D) (r' := mm_r32) (as0 := [dz_I (s86 1 6 0)]) (rest := []) (ls' := [some (.ref 1), some (dz_I (s86 1 6 0)), none]) (pc' := 102) rfl rfl rfl rfl ho_R rfl rfl rfl ?_
              refine jw_R_kindAt (X := X) (D := D + 0) (s86 1 6 0) s86 (dz_pm (dz_bi H) (fun q88 H => ?_))
              show mm_Wp X (D + 1) mm_r31 102 [some (.ref 1), none] [dz_I q88] (hz_0 s86) Q
              refine wp_s (i := .aload_n 0) (n := 1) (pc' := 103) (st' := [.ref 1, dz_I q88]) rfl rfl ?_
              refine wq_gi (idx := 64) (pc' := 106) rfl rfl ho_R rfl rfl ?_
              refine wq_ic (p := dz_c q88 ≠ dz_c (s86 1 8 0)) (tt := 140) (pc' := 109) rfl rfl (cq_ne rfl rfl) rfl (fun c89 => ?_) (fun c89 => ?_)
              · replace H := dz_it c89 H
                replace H := dz_out H
                replace H := dz_sm H
                exact H
              · replace H := dz_if c89 H
                refine wp_s (i := .aload_n 0) (n := 1) (pc' := 110) (st' := [.ref 1]) rfl rfl ?_
                refine wp_s (i := .dup) (n := 1) (pc' := 111) (st' := [.ref 1, .ref 1]) rfl rfl ?_
                refine wq_gi (idx := 47) (pc' := 114) rfl rfl ho_R rfl rfl ?_
                refine wp_s (i := .iconst 1) (n := 1) (pc' := 115) (st' := [dz_I 1, dz_I (s86 1 6 0), .ref 1]) rfl rfl ?_
                refine wq_2 (i := .iadd) (z := (s86 1 6 0) + 1) (pc' := 116) rfl rfl (op_add _ _) rfl ?_
                refine wq_pi (idx := 47) (x := (s86 1 6 0) + 1) (pc' := 119) rfl rfl rfl ho_R rfl rfl rfl rfl (fun Z90 eZ90 => ?_)
                replace H := dz_le H Z90 eZ90
                clear eZ90
                refine wp_s (i := .goto (-39)) (n := 3) (pc' := 80) (st' := []) rfl rfl ?_
                replace H := dz_back H
                exact H
    · replace H := dz_if c47 H
      refine wp_s (i := .aload_n 0) (n := 1) (pc' := 32) (st' := [.ref 1]) rfl rfl ?_
      refine wp_s (i := .dup) (n := 1) (pc' := 33) (st' := [.ref 1, .ref 1]) rfl rfl ?_
      refine wq_gi (idx := 47) (pc' := 36) rfl rfl ho_R rfl rfl ?_
      refine wp_s (i := .iconst 1) (n := 1) (pc' := 37) (st' := [dz_I 1, dz_I (s1 1 6 0), .ref 1]) rfl rfl ?_
      refine wq_2 (i := .iadd) (z := (s1 1 6 0) + 1) (pc' := 38) rfl rfl (op_add _ _) rfl ?_
      refine wq_pi (idx := 47) (x := (s1 1 6 0) + 1) (pc' := 41) rfl rfl rfl ho_R rfl rfl rfl rfl (fun Z91 eZ91 => ?_)
      replace H := dz_le H Z91 eZ91
      clear eZ91
      refine wp_s (i := .goto (-41)) (n := 3) (pc' := 0) (st' := []) rfl rfl ?_
      replace H := dz_back H
      exact H
-- 33
def jf_R_numberRead (Z : dz_Z) : Option (Int) := dz_lp (fun (s1 : Int × Int) => if dz_c (Z 1 6 0) ≤ dz_c s1.2 then (some (Sum.inr s1.1)) else (if 0 ≤ dz_c s1.2 ∧ dz_c s1.2 < 320 then some (Sum.inl (((s1.1 * 10) + (Z 2 0 (dz_c s1.2))) - 48, s1.2 + 1)) else none)) 5000 (0, Z 1 7 0)
set_option maxRecDepth 20000 in
theorem jw_R_numberRead {X : Option (List Int32)} {D : Nat} {Q : Option Value → mm_H → Prop} (Z : dz_Z) (H : dz_p (jf_R_numberRead Z) (fun q => Q (some (dz_I q)) (hz_0 Z))) : mm_Wp X D mm_r33 0 [some (.ref 1), none, none] [] (hz_0 Z) Q := by
  unfold jf_R_numberRead at H
  refine wp_s (i := .iconst 0) (n := 1) (pc' := 1) (st' := [dz_I 0]) rfl rfl ?_
  refine wq_st (k := 1) (i := .istore_n 1) (n := 1) (ls' := [some (.ref 1), some (dz_I 0), none]) (pc' := 2) rfl rfl rfl rfl rfl ?_
  refine wp_s (i := .aload_n 0) (n := 1) (pc' := 3) (st' := [.ref 1]) rfl rfl ?_
  refine wq_gi (idx := 50) (pc' := 6) rfl rfl ho_R rfl rfl ?_
  refine wq_st (k := 2) (i := .istore_n 2) (n := 1) (ls' := [some (.ref 1), some (dz_I 0), some (dz_I (Z 1 7 0))]) (pc' := 7) rfl rfl rfl rfl rfl ?_
  refine dz_lpi (P := fun (s1 : Int × Int) => mm_Wp X D mm_r33 7 [some (.ref 1), some (dz_I s1.1), some (dz_I s1.2)] [] (hz_0 Z) Q) (fun s1 H => ?_) 5000 (0, Z 1 7 0) H
  refine wp_s (i := .iload_n 2) (n := 1) (pc' := 8) (st' := [dz_I s1.2]) rfl rfl ?_
  refine wp_s (i := .aload_n 0) (n := 1) (pc' := 9) (st' := [.ref 1, dz_I s1.2]) rfl rfl ?_
  refine wq_gi (idx := 47) (pc' := 12) rfl rfl ho_R rfl rfl ?_
  refine wq_ic (p := dz_c (Z 1 6 0) ≤ dz_c s1.2) (tt := 39) (pc' := 15) rfl rfl (cq_ge rfl rfl) rfl (fun c2 => ?_) (fun c2 => ?_)
  · replace H := dz_it c2 H
    refine wp_s (i := .iload_n 1) (n := 1) (pc' := 40) (st' := [dz_I s1.1]) rfl rfl ?_
    refine wq_ri rfl rfl ?_
    replace H := dz_out H
    replace H := dz_sm H
    exact H
  · replace H := dz_if c2 H
    refine wp_s (i := .iload_n 1) (n := 1) (pc' := 16) (st' := [dz_I s1.1]) rfl rfl ?_
    refine wp_s (i := .bipush 10) (n := 2) (pc' := 18) (st' := [dz_I 10, dz_I s1.1]) rfl rfl ?_
    refine wq_2 (i := .imul) (z := s1.1 * 10) (pc' := 19) rfl rfl (op_mul _ _) rfl ?_
    refine wp_s (i := .aload_n 0) (n := 1) (pc' := 20) (st' := [.ref 1, dz_I (s1.1 * 10)]) rfl rfl ?_
    refine wq_gr (idx := 12) (a := 2) (pc' := 23) rfl rfl ho_R rfl rfl ?_
    refine wq_gr (idx := 56) (a := 3) (pc' := 26) rfl rfl ho_T rfl rfl ?_
    refine wp_s (i := .iload_n 2) (n := 1) (pc' := 27) (st' := [dz_I s1.2, .ref 3, dz_I (s1.1 * 10)]) rfl rfl ?_
    obtain ⟨k3, H⟩ := dz_ck H
    refine wq_ba (j' := dz_c s1.2) (pc' := 28) rfl (by decide) ha_T_0 rfl k3.1 k3.2 rfl ?_
    refine wq_2 (i := .iadd) (z := (s1.1 * 10) + (Z 2 0 (dz_c s1.2))) (pc' := 29) rfl rfl (op_add _ _) rfl ?_
    refine wp_s (i := .bipush 48) (n := 2) (pc' := 31) (st' := [dz_I 48, dz_I ((s1.1 * 10) + (Z 2 0 (dz_c s1.2)))]) rfl rfl ?_
    refine wq_2 (i := .isub) (z := ((s1.1 * 10) + (Z 2 0 (dz_c s1.2))) - 48) (pc' := 32) rfl rfl (op_sub _ _) rfl ?_
    refine wq_st (k := 1) (i := .istore_n 1) (n := 1) (ls' := [some (.ref 1), some (dz_I (((s1.1 * 10) + (Z 2 0 (dz_c s1.2))) - 48)), some (dz_I s1.2)]) (pc' := 33) rfl rfl rfl rfl rfl ?_
    refine wq_inc (k := 2) (d := 1) (x := s1.2) (ls' := [some (.ref 1), some (dz_I (((s1.1 * 10) + (Z 2 0 (dz_c s1.2))) - 48)), some (dz_I (s1.2 + 1))]) (pc' := 36) rfl rfl rfl rfl ?_
    refine wp_s (i := .goto (-29)) (n := 3) (pc' := 7) (st' := []) rfl rfl ?_
    replace H := dz_back H
    exact H
-- 34
def jf_R_isNamed (a1 : Nat) (Z : dz_Z) : Option (Bool) := if dz_c ((Z 1 6 0) - (Z 1 7 0)) = dz_c (jf_len a1) then (dz_lp (fun (s2 : Int) => if dz_c (jf_len a1) ≤ dz_c s2 then (some (Sum.inr true)) else (if 0 ≤ dz_c ((Z 1 7 0) + s2) ∧ dz_c ((Z 1 7 0) + s2) < 320 then if 0 ≤ dz_c s2 ∧ dz_c s2 < jf_len a1 then if dz_c (Z 2 0 (dz_c ((Z 1 7 0) + s2))) = dz_c (jf_chr a1 (dz_c s2)) then (some (Sum.inl (s2 + 1))) else (some (Sum.inr false)) else none else none)) 5000 0) else (some false)
set_option maxRecDepth 20000 in
theorem jw_R_isNamed {X : Option (List Int32)} {D : Nat} {Q : Option Value → mm_H → Prop} (a1 : Nat) (ha1 : a1 < 15) (Z : dz_Z) (H : dz_p (jf_R_isNamed a1 Z) (fun q => Q (some (dz_B q)) (hz_0 Z))) : mm_Wp X (D + 4) mm_r34 0 [some (.ref 1), some (.retAddr (1 + a1)), none] [] (hz_0 Z) Q := by
  unfold jf_R_isNamed at H
  refine wp_s (i := .aload_n 0) (n := 1) (pc' := 1) (st' := [.ref 1]) rfl rfl ?_
  refine wq_gi (idx := 47) (pc' := 4) rfl rfl ho_R rfl rfl ?_
  refine wp_s (i := .aload_n 0) (n := 1) (pc' := 5) (st' := [.ref 1, dz_I (Z 1 6 0)]) rfl rfl ?_
  refine wq_gi (idx := 50) (pc' := 8) rfl rfl ho_R rfl rfl ?_
  refine wq_2 (i := .isub) (z := (Z 1 6 0) - (Z 1 7 0)) (pc' := 9) rfl rfl (op_sub _ _) rfl ?_
  refine wp_s (i := .aload_n 1) (n := 1) (pc' := 10) (st' := [.retAddr (1 + a1), dz_I ((Z 1 6 0) - (Z 1 7 0))]) rfl rfl ?_
  refine wq_ct (Dq := (D + 3)) (r' := mm_r193) (a := 1 + a1) (as0 := []) (rest := [dz_I ((Z 1 6 0) - (Z 1 7 0))]) (ls' := [some (.retAddr (1 + a1))]) (pc' := 13) rfl rfl rfl rfl (hz_tx ha1) rfl rfl rfl ?_
  refine jw_len ha1 ?_
  show mm_Wp X (D + 4) mm_r34 13 [some (.ref 1), some (.retAddr (1 + a1)), none] [dz_I (jf_len a1), dz_I ((Z 1 6 0) - (Z 1 7 0))] (hz_0 Z) Q
  refine wq_ic (p := dz_c ((Z 1 6 0) - (Z 1 7 0)) = dz_c (jf_len a1)) (tt := 18) (pc' := 16) rfl rfl (cq_eq rfl rfl) rfl (fun c1 => ?_) (fun c1 => ?_)
  · replace H := dz_it c1 H
    refine wp_s (i := .iconst 0) (n := 1) (pc' := 19) (st' := [dz_I 0]) rfl rfl ?_
    refine wq_st (k := 2) (i := .istore_n 2) (n := 1) (ls' := [some (.ref 1), some (.retAddr (1 + a1)), some (dz_I 0)]) (pc' := 20) rfl rfl rfl rfl rfl ?_
    refine dz_lpi (P := fun (s2 : Int) => mm_Wp X (D + 4) mm_r34 20 [some (.ref 1), some (.retAddr (1 + a1)), some (dz_I s2)] [] (hz_0 Z) Q) (fun s2 H => ?_) 5000 0 H
    refine wp_s (i := .iload_n 2) (n := 1) (pc' := 21) (st' := [dz_I s2]) rfl rfl ?_
    refine wp_s (i := .aload_n 1) (n := 1) (pc' := 22) (st' := [.retAddr (1 + a1), dz_I s2]) rfl rfl ?_
    refine wq_ct (Dq := (D + 3)) (r' := mm_r193) (a := 1 + a1) (as0 := []) (rest := [dz_I s2]) (ls' := [some (.retAddr (1 + a1))]) (pc' := 25) rfl rfl rfl rfl (hz_tx ha1) rfl rfl rfl ?_
    refine jw_len ha1 ?_
    show mm_Wp X (D + 4) mm_r34 25 [some (.ref 1), some (.retAddr (1 + a1)), some (dz_I s2)] [dz_I (jf_len a1), dz_I s2] (hz_0 Z) Q
    refine wq_ic (p := dz_c (jf_len a1) ≤ dz_c s2) (tt := 58) (pc' := 28) rfl rfl (cq_ge rfl rfl) rfl (fun c3 => ?_) (fun c3 => ?_)
    · replace H := dz_it c3 H
      refine wp_s (i := .iconst 1) (n := 1) (pc' := 59) (st' := [dz_I 1]) rfl rfl ?_
      refine wq_rt rfl rfl ?_
      replace H := dz_out H
      replace H := dz_sm H
      exact H
    · replace H := dz_if c3 H
      refine wp_s (i := .aload_n 0) (n := 1) (pc' := 29) (st' := [.ref 1]) rfl rfl ?_
      refine wq_gr (idx := 12) (a := 2) (pc' := 32) rfl rfl ho_R rfl rfl ?_
      refine wq_gr (idx := 56) (a := 3) (pc' := 35) rfl rfl ho_T rfl rfl ?_
      refine wp_s (i := .aload_n 0) (n := 1) (pc' := 36) (st' := [.ref 1, .ref 3]) rfl rfl ?_
      refine wq_gi (idx := 50) (pc' := 39) rfl rfl ho_R rfl rfl ?_
      refine wp_s (i := .iload_n 2) (n := 1) (pc' := 40) (st' := [dz_I s2, dz_I (Z 1 7 0), .ref 3]) rfl rfl ?_
      refine wq_2 (i := .iadd) (z := (Z 1 7 0) + s2) (pc' := 41) rfl rfl (op_add _ _) rfl ?_
      obtain ⟨k4, H⟩ := dz_ck H
      refine wq_ba (j' := dz_c ((Z 1 7 0) + s2)) (pc' := 42) rfl (by decide) ha_T_0 rfl k4.1 k4.2 rfl ?_
      refine wp_s (i := .aload_n 1) (n := 1) (pc' := 43) (st' := [.retAddr (1 + a1), dz_I (Z 2 0 (dz_c ((Z 1 7 0) + s2)))]) rfl rfl ?_
      refine wp_s (i := .iload_n 2) (n := 1) (pc' := 44) (st' := [dz_I s2, .retAddr (1 + a1), dz_I (Z 2 0 (dz_c ((Z 1 7 0) + s2)))]) rfl rfl ?_
      obtain ⟨k5, H⟩ := dz_ck H
      refine wq_ct (Dq := (D + 3)) (r' := mm_r194) (a := 1 + a1) (as0 := [dz_I s2]) (rest := [dz_I (Z 2 0 (dz_c ((Z 1 7 0) + s2)))]) (ls' := [some (.retAddr (1 + a1)), some (dz_I s2)]) (pc' := 47) rfl rfl rfl rfl (hz_tx ha1) rfl rfl rfl ?_
      refine jw_chr ha1 rfl k5.1 k5.2 ?_
      show mm_Wp X (D + 4) mm_r34 47 [some (.ref 1), some (.retAddr (1 + a1)), some (dz_I s2)] [dz_I (jf_chr a1 (dz_c s2)), dz_I (Z 2 0 (dz_c ((Z 1 7 0) + s2)))] (hz_0 Z) Q
      refine wq_ic (p := dz_c (Z 2 0 (dz_c ((Z 1 7 0) + s2))) = dz_c (jf_chr a1 (dz_c s2))) (tt := 52) (pc' := 50) rfl rfl (cq_eq rfl rfl) rfl (fun c6 => ?_) (fun c6 => ?_)
      · replace H := dz_it c6 H
        refine wq_inc (k := 2) (d := 1) (x := s2) (ls' := [some (.ref 1), some (.retAddr (1 + a1)), some (dz_I (s2 + 1))]) (pc' := 55) rfl rfl rfl rfl ?_
        refine wp_s (i := .goto (-35)) (n := 3) (pc' := 20) (st' := []) rfl rfl ?_
        replace H := dz_back H
        exact H
      · replace H := dz_if c6 H
        refine wp_s (i := .iconst 0) (n := 1) (pc' := 51) (st' := [dz_I 0]) rfl rfl ?_
        refine wq_rf rfl rfl ?_
        replace H := dz_out H
        replace H := dz_sm H
        exact H
  · replace H := dz_if c1 H
    refine wp_s (i := .iconst 0) (n := 1) (pc' := 17) (st' := [dz_I 0]) rfl rfl ?_
    refine wq_rf rfl rfl ?_
    replace H := dz_sm H
    exact H
-- 35
def jf_R_needs (a1 : Int) (Z : dz_Z) : Option (Bool × dz_Z) := Option.bind (jf_R_nextToken Z) fun q1 => if q1.1 = false then (some (false, q1.2)) else (if dz_c (q1.2 1 8 0) = dz_c a1 then (some (true, q1.2)) else (Option.bind (jf_R_fail 2 q1.2) fun q4 => if q4.1 = false then (some (false, q4.2)) else (some (true, q4.2))))
set_option maxRecDepth 20000 in
theorem jw_R_needs {X : Option (List Int32)} {D : Nat} {Q : Option Value → mm_H → Prop} (a1 : Int) (Z : dz_Z) (H : dz_p (jf_R_needs a1 Z) (fun q => Q (some (dz_B q.1)) (hz_0 q.2))) : mm_Wp X (D + 2) mm_r35 0 [some (.ref 1), some (dz_I a1)] [] (hz_0 Z) Q := by
  unfold jf_R_needs at H
  refine wp_s (i := .aload_n 0) (n := 1) (pc' := 1) (st' := [.ref 1]) rfl rfl ?_
  refine wq_cv (Dq := (D + 1)) (r' := mm_r31) (as0 := []) (rest := []) (ls' := [some (.ref 1), none]) (pc' := 4) rfl rfl rfl rfl ho_R rfl rfl rfl ?_
  refine jw_R_nextToken (X := X) (D := D + 0) Z (dz_pm (dz_bi H) (fun q1 H => ?_))
  show mm_Wp X (D + 2) mm_r35 4 [some (.ref 1), some (dz_I a1)] [dz_B q1.1] (hz_0 q1.2) Q
  refine wq_if (p := q1.1 = false) (tt := 27) (pc' := 7) rfl rfl (cb_eq) rfl (fun c2 => ?_) (fun c2 => ?_)
  · replace H := dz_it c2 H
    refine wp_s (i := .iconst 0) (n := 1) (pc' := 28) (st' := [dz_I 0]) rfl rfl ?_
    refine wq_rf rfl rfl ?_
    replace H := dz_sm H
    exact H
  · replace H := dz_if c2 H
    refine wp_s (i := .aload_n 0) (n := 1) (pc' := 8) (st' := [.ref 1]) rfl rfl ?_
    refine wq_gi (idx := 64) (pc' := 11) rfl rfl ho_R rfl rfl ?_
    refine wp_s (i := .iload_n 1) (n := 1) (pc' := 12) (st' := [dz_I a1, dz_I (q1.2 1 8 0)]) rfl rfl ?_
    refine wq_ic (p := dz_c (q1.2 1 8 0) = dz_c a1) (tt := 23) (pc' := 15) rfl rfl (cq_eq rfl rfl) rfl (fun c3 => ?_) (fun c3 => ?_)
    · replace H := dz_it c3 H
      refine wp_s (i := .iconst 1) (n := 1) (pc' := 24) (st' := [dz_I 1]) rfl rfl ?_
      refine wp_s (i := .goto 4) (n := 3) (pc' := 28) (st' := [dz_I 1]) rfl rfl ?_
      refine wq_rt rfl rfl ?_
      replace H := dz_sm H
      exact H
    · replace H := dz_if c3 H
      refine wp_s (i := .aload_n 0) (n := 1) (pc' := 16) (st' := [.ref 1]) rfl rfl ?_
      refine wp_s (i := .iconst 2) (n := 1) (pc' := 17) (st' := [dz_I 2, .ref 1]) rfl rfl ?_
      refine wq_cv (Dq := (D + 1)) (r' := mm_r30) (as0 := [dz_I 2]) (rest := []) (ls' := [some (.ref 1), some (dz_I 2)]) (pc' := 20) rfl rfl rfl rfl ho_R rfl rfl rfl ?_
      refine jw_R_fail (X := X) (D := D + 1) 2 q1.2 (dz_pm (dz_bi H) (fun q4 H => ?_))
      show mm_Wp X (D + 2) mm_r35 20 [some (.ref 1), some (dz_I a1)] [dz_B q4.1] (hz_0 q4.2) Q
      refine wq_if (p := q4.1 = false) (tt := 27) (pc' := 23) rfl rfl (cb_eq) rfl (fun c5 => ?_) (fun c5 => ?_)
      · replace H := dz_it c5 H
        refine wp_s (i := .iconst 0) (n := 1) (pc' := 28) (st' := [dz_I 0]) rfl rfl ?_
        refine wq_rf rfl rfl ?_
        replace H := dz_sm H
        exact H
      · replace H := dz_if c5 H
        refine wp_s (i := .iconst 1) (n := 1) (pc' := 24) (st' := [dz_I 1]) rfl rfl ?_
        refine wp_s (i := .goto 4) (n := 3) (pc' := 28) (st' := [dz_I 1]) rfl rfl ?_
        refine wq_rt rfl rfl ?_
        replace H := dz_sm H
        exact H
-- 36
def jf_R_needsNumber (a1 : Int) (a2 : Int) (Z : dz_Z) : Option (Bool × dz_Z) := Option.bind (jf_R_nextToken Z) fun q1 => if q1.1 = true then (if dz_c (q1.2 1 8 0) = 3 then (Option.bind (jf_R_numberRead q1.2) fun q4 => dz_a (dz_u q1.2 1 9 0 q4) fun Z5 => if dz_c (Z5 1 9 0) < dz_c a1 then (Option.bind (jf_R_fail 3 Z5) fun q7 => if q7.1 = false then (some (false, q7.2)) else (some (true, q7.2))) else (if dz_c (Z5 1 9 0) ≤ dz_c a2 then (some (true, Z5)) else (Option.bind (jf_R_fail 3 Z5) fun q10 => if q10.1 = false then (some (false, q10.2)) else (some (true, q10.2))))) else (Option.bind (jf_R_fail 2 q1.2) fun q12 => some (q12.1, q12.2))) else (some (false, q1.2))
set_option maxRecDepth 20000 in
theorem jw_R_needsNumber {X : Option (List Int32)} {D : Nat} {Q : Option Value → mm_H → Prop} (a1 : Int) (a2 : Int) (Z : dz_Z) (H : dz_p (jf_R_needsNumber a1 a2 Z) (fun q => Q (some (dz_B q.1)) (hz_0 q.2))) : mm_Wp X (D + 2) mm_r36 0 [some (.ref 1), some (dz_I a1), some (dz_I a2)] [] (hz_0 Z) Q := by
  unfold jf_R_needsNumber at H
  refine wp_s (i := .aload_n 0) (n := 1) (pc' := 1) (st' := [.ref 1]) rfl rfl ?_
  refine wq_cv (Dq := (D + 1)) (r' := mm_r31) (as0 := []) (rest := []) (ls' := [some (.ref 1), none]) (pc' := 4) rfl rfl rfl rfl ho_R rfl rfl rfl ?_
  refine jw_R_nextToken (X := X) (D := D + 0) Z (dz_pm (dz_bi H) (fun q1 H => ?_))
  show mm_Wp X (D + 2) mm_r36 4 [some (.ref 1), some (dz_I a1), some (dz_I a2)] [dz_B q1.1] (hz_0 q1.2) Q
  refine wq_if (p := q1.1 = true) (tt := 9) (pc' := 7) rfl rfl (cb_ne) rfl (fun c2 => ?_) (fun c2 => ?_)
  · replace H := dz_it c2 H
    refine wp_s (i := .aload_n 0) (n := 1) (pc' := 10) (st' := [.ref 1]) rfl rfl ?_
    refine wq_gi (idx := 64) (pc' := 13) rfl rfl ho_R rfl rfl ?_
    refine wp_s (i := .iconst 3) (n := 1) (pc' := 14) (st' := [dz_I 3, dz_I (q1.2 1 8 0)]) rfl rfl ?_
    refine wq_ic (p := dz_c (q1.2 1 8 0) = 3) (tt := 23) (pc' := 17) rfl rfl (cq_eq rfl dk_3) rfl (fun c3 => ?_) (fun c3 => ?_)
    · replace H := dz_it c3 H
      refine wp_s (i := .aload_n 0) (n := 1) (pc' := 24) (st' := [.ref 1]) rfl rfl ?_
      refine wp_s (i := .aload_n 0) (n := 1) (pc' := 25) (st' := [.ref 1, .ref 1]) rfl rfl ?_
      refine wq_cv (Dq := (D + 1)) (r' := mm_r33) (as0 := []) (rest := [.ref 1]) (ls' := [some (.ref 1), none, none]) (pc' := 28) rfl rfl rfl rfl ho_R rfl rfl rfl ?_
      refine jw_R_numberRead (X := X) (D := D + 1) q1.2 (dz_pm (dz_bi H) (fun q4 H => ?_))
      show mm_Wp X (D + 2) mm_r36 28 [some (.ref 1), some (dz_I a1), some (dz_I a2)] [dz_I q4, .ref 1] (hz_0 q1.2) Q
      refine wq_pi (idx := 87) (x := q4) (pc' := 31) rfl rfl rfl ho_R rfl rfl rfl rfl (fun Z5 eZ5 => ?_)
      replace H := dz_le H Z5 eZ5
      clear eZ5
      refine wp_s (i := .aload_n 0) (n := 1) (pc' := 32) (st' := [.ref 1]) rfl rfl ?_
      refine wq_gi (idx := 87) (pc' := 35) rfl rfl ho_R rfl rfl ?_
      refine wp_s (i := .iload_n 1) (n := 1) (pc' := 36) (st' := [dz_I a1, dz_I (Z5 1 9 0)]) rfl rfl ?_
      refine wq_ic (p := dz_c (Z5 1 9 0) < dz_c a1) (tt := 47) (pc' := 39) rfl rfl (cq_lt rfl rfl) rfl (fun c6 => ?_) (fun c6 => ?_)
      · replace H := dz_it c6 H
        refine wp_s (i := .aload_n 0) (n := 1) (pc' := 48) (st' := [.ref 1]) rfl rfl ?_
        refine wp_s (i := .iconst 3) (n := 1) (pc' := 49) (st' := [dz_I 3, .ref 1]) rfl rfl ?_
        refine wq_cv (Dq := (D + 1)) (r' := mm_r30) (as0 := [dz_I 3]) (rest := []) (ls' := [some (.ref 1), some (dz_I 3)]) (pc' := 52) rfl rfl rfl rfl ho_R rfl rfl rfl ?_
        refine jw_R_fail (X := X) (D := D + 1) 3 Z5 (dz_pm (dz_bi H) (fun q7 H => ?_))
        show mm_Wp X (D + 2) mm_r36 52 [some (.ref 1), some (dz_I a1), some (dz_I a2)] [dz_B q7.1] (hz_0 q7.2) Q
        refine wq_if (p := q7.1 = false) (tt := 59) (pc' := 55) rfl rfl (cb_eq) rfl (fun c8 => ?_) (fun c8 => ?_)
        · replace H := dz_it c8 H
          refine wp_s (i := .iconst 0) (n := 1) (pc' := 60) (st' := [dz_I 0]) rfl rfl ?_
          refine wq_rf rfl rfl ?_
          replace H := dz_sm H
          exact H
        · replace H := dz_if c8 H
          refine wp_s (i := .iconst 1) (n := 1) (pc' := 56) (st' := [dz_I 1]) rfl rfl ?_
          refine wp_s (i := .goto 4) (n := 3) (pc' := 60) (st' := [dz_I 1]) rfl rfl ?_
          refine wq_rt rfl rfl ?_
          replace H := dz_sm H
          exact H
      · replace H := dz_if c6 H
        refine wp_s (i := .aload_n 0) (n := 1) (pc' := 40) (st' := [.ref 1]) rfl rfl ?_
        refine wq_gi (idx := 87) (pc' := 43) rfl rfl ho_R rfl rfl ?_
        refine wp_s (i := .iload_n 2) (n := 1) (pc' := 44) (st' := [dz_I a2, dz_I (Z5 1 9 0)]) rfl rfl ?_
        refine wq_ic (p := dz_c (Z5 1 9 0) ≤ dz_c a2) (tt := 55) (pc' := 47) rfl rfl (cq_le rfl rfl) rfl (fun c9 => ?_) (fun c9 => ?_)
        · replace H := dz_it c9 H
          refine wp_s (i := .iconst 1) (n := 1) (pc' := 56) (st' := [dz_I 1]) rfl rfl ?_
          refine wp_s (i := .goto 4) (n := 3) (pc' := 60) (st' := [dz_I 1]) rfl rfl ?_
          refine wq_rt rfl rfl ?_
          replace H := dz_sm H
          exact H
        · replace H := dz_if c9 H
          refine wp_s (i := .aload_n 0) (n := 1) (pc' := 48) (st' := [.ref 1]) rfl rfl ?_
          refine wp_s (i := .iconst 3) (n := 1) (pc' := 49) (st' := [dz_I 3, .ref 1]) rfl rfl ?_
          refine wq_cv (Dq := (D + 1)) (r' := mm_r30) (as0 := [dz_I 3]) (rest := []) (ls' := [some (.ref 1), some (dz_I 3)]) (pc' := 52) rfl rfl rfl rfl ho_R rfl rfl rfl ?_
          refine jw_R_fail (X := X) (D := D + 1) 3 Z5 (dz_pm (dz_bi H) (fun q10 H => ?_))
          show mm_Wp X (D + 2) mm_r36 52 [some (.ref 1), some (dz_I a1), some (dz_I a2)] [dz_B q10.1] (hz_0 q10.2) Q
          refine wq_if (p := q10.1 = false) (tt := 59) (pc' := 55) rfl rfl (cb_eq) rfl (fun c11 => ?_) (fun c11 => ?_)
          · replace H := dz_it c11 H
            refine wp_s (i := .iconst 0) (n := 1) (pc' := 60) (st' := [dz_I 0]) rfl rfl ?_
            refine wq_rf rfl rfl ?_
            replace H := dz_sm H
            exact H
          · replace H := dz_if c11 H
            refine wp_s (i := .iconst 1) (n := 1) (pc' := 56) (st' := [dz_I 1]) rfl rfl ?_
            refine wp_s (i := .goto 4) (n := 3) (pc' := 60) (st' := [dz_I 1]) rfl rfl ?_
            refine wq_rt rfl rfl ?_
            replace H := dz_sm H
            exact H
    · replace H := dz_if c3 H
      refine wp_s (i := .aload_n 0) (n := 1) (pc' := 18) (st' := [.ref 1]) rfl rfl ?_
      refine wp_s (i := .iconst 2) (n := 1) (pc' := 19) (st' := [dz_I 2, .ref 1]) rfl rfl ?_
      refine wq_cv (Dq := (D + 1)) (r' := mm_r30) (as0 := [dz_I 2]) (rest := []) (ls' := [some (.ref 1), some (dz_I 2)]) (pc' := 22) rfl rfl rfl rfl ho_R rfl rfl rfl ?_
      refine jw_R_fail (X := X) (D := D + 1) 2 q1.2 (dz_pm (dz_bi H) (fun q12 H => ?_))
      show mm_Wp X (D + 2) mm_r36 22 [some (.ref 1), some (dz_I a1), some (dz_I a2)] [dz_B q12.1] (hz_0 q12.2) Q
      refine wq_rb rfl rfl ?_
      replace H := dz_sm H
      exact H
  · replace H := dz_if c2 H
    refine wp_s (i := .iconst 0) (n := 1) (pc' := 8) (st' := [dz_I 0]) rfl rfl ?_
    refine wq_rf rfl rfl ?_
    replace H := dz_sm H
    exact H
-- 51
def jf_R_isThere (a1 : Int) (Z : dz_Z) : Option (Bool) := if 5 ≤ dz_c a1 then (if dz_c a1 = 20 then (some true) else (if hz_isP (Z 1 1 0).toNat then if dz_c (Z ((Z 1 1 0).toNat) 6 0) ≤ dz_c (a1 - 10) then (some false) else (some true) else none)) else (if hz_isP (Z 1 1 0).toNat then if dz_c (Z ((Z 1 1 0).toNat) 3 0) ≤ dz_c a1 then (some false) else (some true) else none)
set_option maxRecDepth 20000 in
theorem jw_R_isThere {X : Option (List Int32)} {D : Nat} {Q : Option Value → mm_H → Prop} (a1 : Int) (Z : dz_Z) (H : dz_p (jf_R_isThere a1 Z) (fun q => Q (some (dz_B q)) (hz_0 Z))) : mm_Wp X D mm_r51 0 [some (.ref 1), some (dz_I a1)] [] (hz_0 Z) Q := by
  unfold jf_R_isThere at H
  refine wp_s (i := .iload_n 1) (n := 1) (pc' := 1) (st' := [dz_I a1]) rfl rfl ?_
  refine wp_s (i := .iconst 5) (n := 1) (pc' := 2) (st' := [dz_I 5, dz_I a1]) rfl rfl ?_
  refine wq_ic (p := 5 ≤ dz_c a1) (tt := 22) (pc' := 5) rfl rfl (cq_ge rfl dk_5) rfl (fun c1 => ?_) (fun c1 => ?_)
  · replace H := dz_it c1 H
    refine wp_s (i := .iload_n 1) (n := 1) (pc' := 23) (st' := [dz_I a1]) rfl rfl ?_
    refine wp_s (i := .bipush 20) (n := 2) (pc' := 25) (st' := [dz_I 20, dz_I a1]) rfl rfl ?_
    refine wq_ic (p := dz_c a1 = 20) (tt := 42) (pc' := 28) rfl rfl (cq_eq rfl dk_20) rfl (fun c2 => ?_) (fun c2 => ?_)
    · replace H := dz_it c2 H
      refine wp_s (i := .iconst 1) (n := 1) (pc' := 43) (st' := [dz_I 1]) rfl rfl ?_
      refine wp_s (i := .goto 4) (n := 3) (pc' := 47) (st' := [dz_I 1]) rfl rfl ?_
      refine wq_rt rfl rfl ?_
      replace H := dz_sm H
      exact H
    · replace H := dz_if c2 H
      refine wp_s (i := .iload_n 1) (n := 1) (pc' := 29) (st' := [dz_I a1]) rfl rfl ?_
      refine wp_s (i := .bipush 10) (n := 2) (pc' := 31) (st' := [dz_I 10, dz_I a1]) rfl rfl ?_
      refine wq_2 (i := .isub) (z := a1 - 10) (pc' := 32) rfl rfl (op_sub _ _) rfl ?_
      refine wp_s (i := .aload_n 0) (n := 1) (pc' := 33) (st' := [.ref 1, dz_I (a1 - 10)]) rfl rfl ?_
      obtain ⟨k3, H⟩ := dz_ck H
      refine wq_gd (idx := 21) (pc' := 36) rfl rfl ho_R rfl rfl ?_
      refine wq_gi (idx := 165) (pc' := 39) rfl rfl (ho_P k3) rfl rfl ?_
      refine wq_ic (p := dz_c (Z ((Z 1 1 0).toNat) 6 0) ≤ dz_c (a1 - 10)) (tt := 46) (pc' := 42) rfl rfl (cq_ge rfl rfl) rfl (fun c4 => ?_) (fun c4 => ?_)
      · replace H := dz_it c4 H
        refine wp_s (i := .iconst 0) (n := 1) (pc' := 47) (st' := [dz_I 0]) rfl rfl ?_
        refine wq_rf rfl rfl ?_
        replace H := dz_sm H
        exact H
      · replace H := dz_if c4 H
        refine wp_s (i := .iconst 1) (n := 1) (pc' := 43) (st' := [dz_I 1]) rfl rfl ?_
        refine wp_s (i := .goto 4) (n := 3) (pc' := 47) (st' := [dz_I 1]) rfl rfl ?_
        refine wq_rt rfl rfl ?_
        replace H := dz_sm H
        exact H
  · replace H := dz_if c1 H
    refine wp_s (i := .iload_n 1) (n := 1) (pc' := 6) (st' := [dz_I a1]) rfl rfl ?_
    refine wp_s (i := .aload_n 0) (n := 1) (pc' := 7) (st' := [.ref 1, dz_I a1]) rfl rfl ?_
    obtain ⟨k5, H⟩ := dz_ck H
    refine wq_gd (idx := 21) (pc' := 10) rfl rfl ho_R rfl rfl ?_
    refine wq_gi (idx := 149) (pc' := 13) rfl rfl (ho_P k5) rfl rfl ?_
    refine wq_ic (p := dz_c (Z ((Z 1 1 0).toNat) 3 0) ≤ dz_c a1) (tt := 20) (pc' := 16) rfl rfl (cq_ge rfl rfl) rfl (fun c6 => ?_) (fun c6 => ?_)
    · replace H := dz_it c6 H
      refine wp_s (i := .iconst 0) (n := 1) (pc' := 21) (st' := [dz_I 0]) rfl rfl ?_
      refine wq_rf rfl rfl ?_
      replace H := dz_sm H
      exact H
    · replace H := dz_if c6 H
      refine wp_s (i := .iconst 1) (n := 1) (pc' := 17) (st' := [dz_I 1]) rfl rfl ?_
      refine wp_s (i := .goto 4) (n := 3) (pc' := 21) (st' := [dz_I 1]) rfl rfl ?_
      refine wq_rt rfl rfl ?_
      replace H := dz_sm H
      exact H
-- 50
def jf_R_allPartsAreThere (Z : dz_Z) : Option (Bool) := dz_lp (fun (s1 : Int) => if hz_isP (Z 1 1 0).toNat then if dz_c (Z ((Z 1 1 0).toNat) 0 0) ≤ dz_c s1 then (dz_lp (fun (s4 : Int) => if dz_c (Z ((Z 1 1 0).toNat) 3 0) ≤ dz_c s4 then (dz_lp (fun (s6 : Int) => if dz_c (Z ((Z 1 1 0).toNat) 6 0) ≤ dz_c s6 then (some (Sum.inr (Sum.inr (Sum.inr true)))) else (if hz_isS (Z 1 2 0).toNat then if 0 ≤ dz_c s6 ∧ dz_c s6 < 8 then if dz_c (Z ((Z 1 2 0).toNat) 2 (dz_c s6)) ≠ 4 then (some (Sum.inl (s6 + 1))) else (if dz_c (Z ((Z 1 1 0).toNat) 9 (dz_c s6)) < dz_c (Z ((Z 1 1 0).toNat) 6 0) then (some (Sum.inl (s6 + 1))) else (some (Sum.inr (Sum.inr (Sum.inr false))))) else none else none)) 5000 0) else (if 0 ≤ dz_c s4 ∧ dz_c s4 < 5 then Option.bind (jf_R_isThere (Z ((Z 1 1 0).toNat) 4 (dz_c s4)) Z) fun q13 => if q13 = false then (some (Sum.inr (Sum.inr false))) else (Option.bind (jf_R_isThere (Z ((Z 1 1 0).toNat) 5 (dz_c s4)) Z) fun q15 => if q15 = true then (some (Sum.inl (s4 + 1))) else (some (Sum.inr (Sum.inr false)))) else none)) 5000 0) else (if 0 ≤ dz_c s1 ∧ dz_c s1 < 4 then if dz_c (Z ((Z 1 1 0).toNat) 2 (dz_c s1)) < dz_c (Z ((Z 1 1 0).toNat) 3 0) then (some (Sum.inl (s1 + 1))) else (some (Sum.inr false)) else none) else none) 5000 0
set_option maxRecDepth 20000 in
theorem jw_R_allPartsAreThere {X : Option (List Int32)} {D : Nat} {Q : Option Value → mm_H → Prop} (Z : dz_Z) (H : dz_p (jf_R_allPartsAreThere Z) (fun q => Q (some (dz_B q)) (hz_0 Z))) : mm_Wp X (D + 1) mm_r50 0 [some (.ref 1), none] [] (hz_0 Z) Q := by
  unfold jf_R_allPartsAreThere at H
  refine wp_s (i := .iconst 0) (n := 1) (pc' := 1) (st' := [dz_I 0]) rfl rfl ?_
  refine wq_st (k := 1) (i := .istore_n 1) (n := 1) (ls' := [some (.ref 1), some (dz_I 0)]) (pc' := 2) rfl rfl rfl rfl rfl ?_
  refine dz_lpi (P := fun (s1 : Int) => mm_Wp X (D + 1) mm_r50 2 [some (.ref 1), some (dz_I s1)] [] (hz_0 Z) Q) (fun s1 H => ?_) 5000 0 H
  refine wp_s (i := .iload_n 1) (n := 1) (pc' := 3) (st' := [dz_I s1]) rfl rfl ?_
  refine wp_s (i := .aload_n 0) (n := 1) (pc' := 4) (st' := [.ref 1, dz_I s1]) rfl rfl ?_
  obtain ⟨k2, H⟩ := dz_ck H
  refine wq_gd (idx := 21) (pc' := 7) rfl rfl ho_R rfl rfl ?_
  refine wq_gi (idx := 132) (pc' := 10) rfl rfl (ho_P k2) rfl rfl ?_
  refine wq_ic (p := dz_c (Z ((Z 1 1 0).toNat) 0 0) ≤ dz_c s1) (tt := 40) (pc' := 13) rfl rfl (cq_ge rfl rfl) rfl (fun c3 => ?_) (fun c3 => ?_)
  · replace H := dz_it c3 H
    refine wp_s (i := .iconst 0) (n := 1) (pc' := 41) (st' := [dz_I 0]) rfl rfl ?_
    refine wq_st (k := 1) (i := .istore_n 1) (n := 1) (ls' := [some (.ref 1), some (dz_I 0)]) (pc' := 42) rfl rfl rfl rfl rfl ?_
    refine dz_lpi (P := fun (s4 : Int) => mm_Wp X (D + 1) mm_r50 42 [some (.ref 1), some (dz_I s4)] [] (hz_0 Z) Q) (fun s4 H => ?_) 5000 0 H
    refine wp_s (i := .iload_n 1) (n := 1) (pc' := 43) (st' := [dz_I s4]) rfl rfl ?_
    refine wp_s (i := .aload_n 0) (n := 1) (pc' := 44) (st' := [.ref 1, dz_I s4]) rfl rfl ?_
    refine wq_gd (idx := 21) (pc' := 47) rfl rfl ho_R rfl rfl ?_
    refine wq_gi (idx := 149) (pc' := 50) rfl rfl (ho_P k2) rfl rfl ?_
    refine wq_ic (p := dz_c (Z ((Z 1 1 0).toNat) 3 0) ≤ dz_c s4) (tt := 93) (pc' := 53) rfl rfl (cq_ge rfl rfl) rfl (fun c5 => ?_) (fun c5 => ?_)
    · replace H := dz_it c5 H
      refine wp_s (i := .iconst 0) (n := 1) (pc' := 94) (st' := [dz_I 0]) rfl rfl ?_
      refine wq_st (k := 1) (i := .istore_n 1) (n := 1) (ls' := [some (.ref 1), some (dz_I 0)]) (pc' := 95) rfl rfl rfl rfl rfl ?_
      refine dz_lpi (P := fun (s6 : Int) => mm_Wp X (D + 1) mm_r50 95 [some (.ref 1), some (dz_I s6)] [] (hz_0 Z) Q) (fun s6 H => ?_) 5000 0 H
      refine wp_s (i := .iload_n 1) (n := 1) (pc' := 96) (st' := [dz_I s6]) rfl rfl ?_
      refine wp_s (i := .aload_n 0) (n := 1) (pc' := 97) (st' := [.ref 1, dz_I s6]) rfl rfl ?_
      refine wq_gd (idx := 21) (pc' := 100) rfl rfl ho_R rfl rfl ?_
      refine wq_gi (idx := 165) (pc' := 103) rfl rfl (ho_P k2) rfl rfl ?_
      refine wq_ic (p := dz_c (Z ((Z 1 1 0).toNat) 6 0) ≤ dz_c s6) (tt := 146) (pc' := 106) rfl rfl (cq_ge rfl rfl) rfl (fun c7 => ?_) (fun c7 => ?_)
      · replace H := dz_it c7 H
        refine wp_s (i := .iconst 1) (n := 1) (pc' := 147) (st' := [dz_I 1]) rfl rfl ?_
        refine wq_rt rfl rfl ?_
        replace H := dz_out H
        replace H := dz_out H
        replace H := dz_out H
        replace H := dz_sm H
        exact H
      · replace H := dz_if c7 H
        refine wp_s (i := .aload_n 0) (n := 1) (pc' := 107) (st' := [.ref 1]) rfl rfl ?_
        obtain ⟨k8, H⟩ := dz_ck H
        refine wq_gd (idx := 28) (pc' := 110) rfl rfl ho_R rfl rfl ?_
        refine wq_gr (idx := 177) (a := (Z 1 2 0).toNat + 3) (pc' := 113) rfl rfl (ho_S k8) rfl rfl ?_
        refine wp_s (i := .iload_n 1) (n := 1) (pc' := 114) (st' := [dz_I s6, .ref ((Z 1 2 0).toNat + 3)]) rfl rfl ?_
        obtain ⟨k9, H⟩ := dz_ck H
        refine wq_ia (j' := dz_c s6) (pc' := 115) rfl (ha_S_2 k8) rfl k9.1 k9.2 rfl ?_
        refine wp_s (i := .iconst 4) (n := 1) (pc' := 116) (st' := [dz_I 4, dz_I (Z ((Z 1 2 0).toNat) 2 (dz_c s6))]) rfl rfl ?_
        refine wq_ic (p := dz_c (Z ((Z 1 2 0).toNat) 2 (dz_c s6)) ≠ 4) (tt := 140) (pc' := 119) rfl rfl (cq_ne rfl dk_4) rfl (fun c10 => ?_) (fun c10 => ?_)
        · replace H := dz_it c10 H
          refine wq_inc (k := 1) (d := 1) (x := s6) (ls' := [some (.ref 1), some (dz_I (s6 + 1))]) (pc' := 143) rfl rfl rfl rfl ?_
          refine wp_s (i := .goto (-48)) (n := 3) (pc' := 95) (st' := []) rfl rfl ?_
          replace H := dz_back H
          exact H
        · replace H := dz_if c10 H
          refine wp_s (i := .aload_n 0) (n := 1) (pc' := 120) (st' := [.ref 1]) rfl rfl ?_
          refine wq_gd (idx := 21) (pc' := 123) rfl rfl ho_R rfl rfl ?_
          refine wq_gr (idx := 186) (a := (Z 1 1 0).toNat + 7) (pc' := 126) rfl rfl (ho_P k2) rfl rfl ?_
          refine wp_s (i := .iload_n 1) (n := 1) (pc' := 127) (st' := [dz_I s6, .ref ((Z 1 1 0).toNat + 7)]) rfl rfl ?_
          refine wq_ia (j' := dz_c s6) (pc' := 128) rfl (ha_P_9 k2) rfl k9.1 k9.2 rfl ?_
          refine wp_s (i := .aload_n 0) (n := 1) (pc' := 129) (st' := [.ref 1, dz_I (Z ((Z 1 1 0).toNat) 9 (dz_c s6))]) rfl rfl ?_
          refine wq_gd (idx := 21) (pc' := 132) rfl rfl ho_R rfl rfl ?_
          refine wq_gi (idx := 165) (pc' := 135) rfl rfl (ho_P k2) rfl rfl ?_
          refine wq_ic (p := dz_c (Z ((Z 1 1 0).toNat) 9 (dz_c s6)) < dz_c (Z ((Z 1 1 0).toNat) 6 0)) (tt := 140) (pc' := 138) rfl rfl (cq_lt rfl rfl) rfl (fun c11 => ?_) (fun c11 => ?_)
          · replace H := dz_it c11 H
            refine wq_inc (k := 1) (d := 1) (x := s6) (ls' := [some (.ref 1), some (dz_I (s6 + 1))]) (pc' := 143) rfl rfl rfl rfl ?_
            refine wp_s (i := .goto (-48)) (n := 3) (pc' := 95) (st' := []) rfl rfl ?_
            replace H := dz_back H
            exact H
          · replace H := dz_if c11 H
            refine wp_s (i := .iconst 0) (n := 1) (pc' := 139) (st' := [dz_I 0]) rfl rfl ?_
            refine wq_rf rfl rfl ?_
            replace H := dz_out H
            replace H := dz_out H
            replace H := dz_out H
            replace H := dz_sm H
            exact H
    · replace H := dz_if c5 H
      refine wp_s (i := .aload_n 0) (n := 1) (pc' := 54) (st' := [.ref 1]) rfl rfl ?_
      refine wp_s (i := .aload_n 0) (n := 1) (pc' := 55) (st' := [.ref 1, .ref 1]) rfl rfl ?_
      refine wq_gd (idx := 21) (pc' := 58) rfl rfl ho_R rfl rfl ?_
      refine wq_gr (idx := 155) (a := (Z 1 1 0).toNat + 3) (pc' := 61) rfl rfl (ho_P k2) rfl rfl ?_
      refine wp_s (i := .iload_n 1) (n := 1) (pc' := 62) (st' := [dz_I s4, .ref ((Z 1 1 0).toNat + 3), .ref 1]) rfl rfl ?_
      obtain ⟨k12, H⟩ := dz_ck H
      refine wq_ia (j' := dz_c s4) (pc' := 63) rfl (ha_P_4 k2) rfl k12.1 k12.2 rfl ?_
      refine wq_cv (Dq := D) (r' := mm_r51) (as0 := [dz_I (Z ((Z 1 1 0).toNat) 4 (dz_c s4))]) (rest := []) (ls' := [some (.ref 1), some (dz_I (Z ((Z 1 1 0).toNat) 4 (dz_c s4)))]) (pc' := 66) rfl rfl rfl rfl ho_R rfl rfl rfl ?_
      refine jw_R_isThere (X := X) (D := D + 0) (Z ((Z 1 1 0).toNat) 4 (dz_c s4)) Z (dz_pm (dz_bi H) (fun q13 H => ?_))
      show mm_Wp X (D + 1) mm_r50 66 [some (.ref 1), some (dz_I s4)] [dz_B q13] (hz_0 Z) Q
      refine wq_if (p := q13 = false) (tt := 85) (pc' := 69) rfl rfl (cb_eq) rfl (fun c14 => ?_) (fun c14 => ?_)
      · replace H := dz_it c14 H
        refine wp_s (i := .iconst 0) (n := 1) (pc' := 86) (st' := [dz_I 0]) rfl rfl ?_
        refine wq_rf rfl rfl ?_
        replace H := dz_out H
        replace H := dz_out H
        replace H := dz_sm H
        exact H
      · replace H := dz_if c14 H
        refine wp_s (i := .aload_n 0) (n := 1) (pc' := 70) (st' := [.ref 1]) rfl rfl ?_
        refine wp_s (i := .aload_n 0) (n := 1) (pc' := 71) (st' := [.ref 1, .ref 1]) rfl rfl ?_
        refine wq_gd (idx := 21) (pc' := 74) rfl rfl ho_R rfl rfl ?_
        refine wq_gr (idx := 158) (a := (Z 1 1 0).toNat + 4) (pc' := 77) rfl rfl (ho_P k2) rfl rfl ?_
        refine wp_s (i := .iload_n 1) (n := 1) (pc' := 78) (st' := [dz_I s4, .ref ((Z 1 1 0).toNat + 4), .ref 1]) rfl rfl ?_
        refine wq_ia (j' := dz_c s4) (pc' := 79) rfl (ha_P_5 k2) rfl k12.1 k12.2 rfl ?_
        refine wq_cv (Dq := D) (r' := mm_r51) (as0 := [dz_I (Z ((Z 1 1 0).toNat) 5 (dz_c s4))]) (rest := []) (ls' := [some (.ref 1), some (dz_I (Z ((Z 1 1 0).toNat) 5 (dz_c s4)))]) (pc' := 82) rfl rfl rfl rfl ho_R rfl rfl rfl ?_
        refine jw_R_isThere (X := X) (D := D + 0) (Z ((Z 1 1 0).toNat) 5 (dz_c s4)) Z (dz_pm (dz_bi H) (fun q15 H => ?_))
        show mm_Wp X (D + 1) mm_r50 82 [some (.ref 1), some (dz_I s4)] [dz_B q15] (hz_0 Z) Q
        refine wq_if (p := q15 = true) (tt := 87) (pc' := 85) rfl rfl (cb_ne) rfl (fun c16 => ?_) (fun c16 => ?_)
        · replace H := dz_it c16 H
          refine wq_inc (k := 1) (d := 1) (x := s4) (ls' := [some (.ref 1), some (dz_I (s4 + 1))]) (pc' := 90) rfl rfl rfl rfl ?_
          refine wp_s (i := .goto (-48)) (n := 3) (pc' := 42) (st' := []) rfl rfl ?_
          replace H := dz_back H
          exact H
        · replace H := dz_if c16 H
          refine wp_s (i := .iconst 0) (n := 1) (pc' := 86) (st' := [dz_I 0]) rfl rfl ?_
          refine wq_rf rfl rfl ?_
          replace H := dz_out H
          replace H := dz_out H
          replace H := dz_sm H
          exact H
  · replace H := dz_if c3 H
    refine wp_s (i := .aload_n 0) (n := 1) (pc' := 14) (st' := [.ref 1]) rfl rfl ?_
    refine wq_gd (idx := 21) (pc' := 17) rfl rfl ho_R rfl rfl ?_
    refine wq_gr (idx := 143) (a := (Z 1 1 0).toNat + 2) (pc' := 20) rfl rfl (ho_P k2) rfl rfl ?_
    refine wp_s (i := .iload_n 1) (n := 1) (pc' := 21) (st' := [dz_I s1, .ref ((Z 1 1 0).toNat + 2)]) rfl rfl ?_
    obtain ⟨k17, H⟩ := dz_ck H
    refine wq_ia (j' := dz_c s1) (pc' := 22) rfl (ha_P_2 k2) rfl k17.1 k17.2 rfl ?_
    refine wp_s (i := .aload_n 0) (n := 1) (pc' := 23) (st' := [.ref 1, dz_I (Z ((Z 1 1 0).toNat) 2 (dz_c s1))]) rfl rfl ?_
    refine wq_gd (idx := 21) (pc' := 26) rfl rfl ho_R rfl rfl ?_
    refine wq_gi (idx := 149) (pc' := 29) rfl rfl (ho_P k2) rfl rfl ?_
    refine wq_ic (p := dz_c (Z ((Z 1 1 0).toNat) 2 (dz_c s1)) < dz_c (Z ((Z 1 1 0).toNat) 3 0)) (tt := 34) (pc' := 32) rfl rfl (cq_lt rfl rfl) rfl (fun c18 => ?_) (fun c18 => ?_)
    · replace H := dz_it c18 H
      refine wq_inc (k := 1) (d := 1) (x := s1) (ls' := [some (.ref 1), some (dz_I (s1 + 1))]) (pc' := 37) rfl rfl rfl rfl ?_
      refine wp_s (i := .goto (-35)) (n := 3) (pc' := 2) (st' := []) rfl rfl ?_
      replace H := dz_back H
      exact H
    · replace H := dz_if c18 H
      refine wp_s (i := .iconst 0) (n := 1) (pc' := 33) (st' := [dz_I 0]) rfl rfl ?_
      refine wq_rf rfl rfl ?_
      replace H := dz_out H
      replace H := dz_sm H
      exact H
-- 38
def jf_R_readRoof (Z : dz_Z) : Option (Bool × dz_Z) := if hz_isP (Z 1 1 0).toNat then if dz_c (Z ((Z 1 1 0).toNat) 0 0) < 4 then (Option.bind (jf_R_needsNumber 1 9 Z) fun q3 => if q3.1 = true then (if hz_isP (q3.2 1 1 0).toNat then if 0 ≤ dz_c (Z ((Z 1 1 0).toNat) 0 0) ∧ dz_c (Z ((Z 1 1 0).toNat) 0 0) < 4 then dz_a (dz_u q3.2 ((q3.2 1 1 0).toNat) 1 (dz_c (Z ((Z 1 1 0).toNat) 0 0)) (q3.2 1 9 0)) fun Z7 => Option.bind (jf_R_needsNumber 0 4 Z7) fun q8 => if q8.1 = true then (if hz_isP (q8.2 1 1 0).toNat then dz_a (dz_u q8.2 ((q8.2 1 1 0).toNat) 2 (dz_c (Z ((Z 1 1 0).toNat) 0 0)) (q8.2 1 9 0)) fun Z11 => if hz_isP (Z11 1 1 0).toNat then dz_a (dz_u Z11 ((Z11 1 1 0).toNat) 0 0 ((Z11 ((Z11 1 1 0).toNat) 0 0) + 1)) fun Z13 => Option.bind (jf_R_needs 4 Z13) fun q14 => some (q14.1, q14.2) else none else none) else (some (false, q8.2)) else none else none) else (some (false, q3.2))) else (Option.bind (jf_R_fail 5 Z) fun q15 => some (q15.1, q15.2)) else none
set_option maxRecDepth 20000 in
theorem jw_R_readRoof {X : Option (List Int32)} {D : Nat} {Q : Option Value → mm_H → Prop} (Z : dz_Z) (H : dz_p (jf_R_readRoof Z) (fun q => Q (some (dz_B q.1)) (hz_0 q.2))) : mm_Wp X (D + 3) mm_r38 0 [some (.ref 1), none] [] (hz_0 Z) Q := by
  unfold jf_R_readRoof at H
  refine wp_s (i := .aload_n 0) (n := 1) (pc' := 1) (st' := [.ref 1]) rfl rfl ?_
  obtain ⟨k1, H⟩ := dz_ck H
  refine wq_gd (idx := 21) (pc' := 4) rfl rfl ho_R rfl rfl ?_
  refine wq_gi (idx := 132) (pc' := 7) rfl rfl (ho_P k1) rfl rfl ?_
  refine wq_st (k := 1) (i := .istore_n 1) (n := 1) (ls' := [some (.ref 1), some (dz_I (Z ((Z 1 1 0).toNat) 0 0))]) (pc' := 8) rfl rfl rfl rfl rfl ?_
  refine wp_s (i := .iload_n 1) (n := 1) (pc' := 9) (st' := [dz_I (Z ((Z 1 1 0).toNat) 0 0)]) rfl rfl ?_
  refine wp_s (i := .iconst 4) (n := 1) (pc' := 10) (st' := [dz_I 4, dz_I (Z ((Z 1 1 0).toNat) 0 0)]) rfl rfl ?_
  refine wq_ic (p := dz_c (Z ((Z 1 1 0).toNat) 0 0) < 4) (tt := 19) (pc' := 13) rfl rfl (cq_lt rfl dk_4) rfl (fun c2 => ?_) (fun c2 => ?_)
  · replace H := dz_it c2 H
    refine wp_s (i := .aload_n 0) (n := 1) (pc' := 20) (st' := [.ref 1]) rfl rfl ?_
    refine wp_s (i := .iconst 1) (n := 1) (pc' := 21) (st' := [dz_I 1, .ref 1]) rfl rfl ?_
    refine wp_s (i := .bipush 9) (n := 2) (pc' := 23) (st' := [dz_I 9, dz_I 1, .ref 1]) rfl rfl ?_
    refine wq_cv (Dq := (D + 2)) (r' := mm_r36) (as0 := [dz_I 1, dz_I 9]) (rest := []) (ls' := [some (.ref 1), some (dz_I 1), some (dz_I 9)]) (pc' := 26) rfl rfl rfl rfl ho_R rfl rfl rfl ?_
    refine jw_R_needsNumber (X := X) (D := D + 0) 1 9 Z (dz_pm (dz_bi H) (fun q3 H => ?_))
    show mm_Wp X (D + 3) mm_r38 26 [some (.ref 1), some (dz_I (Z ((Z 1 1 0).toNat) 0 0))] [dz_B q3.1] (hz_0 q3.2) Q
    refine wq_if (p := q3.1 = true) (tt := 31) (pc' := 29) rfl rfl (cb_ne) rfl (fun c4 => ?_) (fun c4 => ?_)
    · replace H := dz_it c4 H
      refine wp_s (i := .aload_n 0) (n := 1) (pc' := 32) (st' := [.ref 1]) rfl rfl ?_
      obtain ⟨k5, H⟩ := dz_ck H
      refine wq_gd (idx := 21) (pc' := 35) rfl rfl ho_R rfl rfl ?_
      refine wq_gr (idx := 139) (a := (q3.2 1 1 0).toNat + 1) (pc' := 38) rfl rfl (ho_P k5) rfl rfl ?_
      refine wp_s (i := .iload_n 1) (n := 1) (pc' := 39) (st' := [dz_I (Z ((Z 1 1 0).toNat) 0 0), .ref ((q3.2 1 1 0).toNat + 1)]) rfl rfl ?_
      refine wp_s (i := .aload_n 0) (n := 1) (pc' := 40) (st' := [.ref 1, dz_I (Z ((Z 1 1 0).toNat) 0 0), .ref ((q3.2 1 1 0).toNat + 1)]) rfl rfl ?_
      refine wq_gi (idx := 87) (pc' := 43) rfl rfl ho_R rfl rfl ?_
      obtain ⟨k6, H⟩ := dz_ck H
      refine wq_is (j' := dz_c (Z ((Z 1 1 0).toNat) 0 0)) (x := q3.2 1 9 0) (pc' := 44) rfl (ha_P_1 k5) rfl k6.1 k6.2 rfl (fun Z7 eZ7 => ?_)
      replace H := dz_le H Z7 eZ7
      clear eZ7
      refine wp_s (i := .aload_n 0) (n := 1) (pc' := 45) (st' := [.ref 1]) rfl rfl ?_
      refine wp_s (i := .iconst 0) (n := 1) (pc' := 46) (st' := [dz_I 0, .ref 1]) rfl rfl ?_
      refine wp_s (i := .iconst 4) (n := 1) (pc' := 47) (st' := [dz_I 4, dz_I 0, .ref 1]) rfl rfl ?_
      refine wq_cv (Dq := (D + 2)) (r' := mm_r36) (as0 := [dz_I 0, dz_I 4]) (rest := []) (ls' := [some (.ref 1), some (dz_I 0), some (dz_I 4)]) (pc' := 50) rfl rfl rfl rfl ho_R rfl rfl rfl ?_
      refine jw_R_needsNumber (X := X) (D := D + 0) 0 4 Z7 (dz_pm (dz_bi H) (fun q8 H => ?_))
      show mm_Wp X (D + 3) mm_r38 50 [some (.ref 1), some (dz_I (Z ((Z 1 1 0).toNat) 0 0))] [dz_B q8.1] (hz_0 q8.2) Q
      refine wq_if (p := q8.1 = true) (tt := 55) (pc' := 53) rfl rfl (cb_ne) rfl (fun c9 => ?_) (fun c9 => ?_)
      · replace H := dz_it c9 H
        refine wp_s (i := .aload_n 0) (n := 1) (pc' := 56) (st' := [.ref 1]) rfl rfl ?_
        obtain ⟨k10, H⟩ := dz_ck H
        refine wq_gd (idx := 21) (pc' := 59) rfl rfl ho_R rfl rfl ?_
        refine wq_gr (idx := 143) (a := (q8.2 1 1 0).toNat + 2) (pc' := 62) rfl rfl (ho_P k10) rfl rfl ?_
        refine wp_s (i := .iload_n 1) (n := 1) (pc' := 63) (st' := [dz_I (Z ((Z 1 1 0).toNat) 0 0), .ref ((q8.2 1 1 0).toNat + 2)]) rfl rfl ?_
        refine wp_s (i := .aload_n 0) (n := 1) (pc' := 64) (st' := [.ref 1, dz_I (Z ((Z 1 1 0).toNat) 0 0), .ref ((q8.2 1 1 0).toNat + 2)]) rfl rfl ?_
        refine wq_gi (idx := 87) (pc' := 67) rfl rfl ho_R rfl rfl ?_
        refine wq_is (j' := dz_c (Z ((Z 1 1 0).toNat) 0 0)) (x := q8.2 1 9 0) (pc' := 68) rfl (ha_P_2 k10) rfl k6.1 k6.2 rfl (fun Z11 eZ11 => ?_)
        replace H := dz_le H Z11 eZ11
        clear eZ11
        refine wp_s (i := .aload_n 0) (n := 1) (pc' := 69) (st' := [.ref 1]) rfl rfl ?_
        obtain ⟨k12, H⟩ := dz_ck H
        refine wq_gd (idx := 21) (pc' := 72) rfl rfl ho_R rfl rfl ?_
        refine wp_s (i := .dup) (n := 1) (pc' := 73) (st' := [.ref ((Z11 1 1 0).toNat), .ref ((Z11 1 1 0).toNat)]) rfl rfl ?_
        refine wq_gi (idx := 132) (pc' := 76) rfl rfl (ho_P k12) rfl rfl ?_
        refine wp_s (i := .iconst 1) (n := 1) (pc' := 77) (st' := [dz_I 1, dz_I (Z11 ((Z11 1 1 0).toNat) 0 0), .ref ((Z11 1 1 0).toNat)]) rfl rfl ?_
        refine wq_2 (i := .iadd) (z := (Z11 ((Z11 1 1 0).toNat) 0 0) + 1) (pc' := 78) rfl rfl (op_add _ _) rfl ?_
        refine wq_pi (idx := 132) (x := (Z11 ((Z11 1 1 0).toNat) 0 0) + 1) (pc' := 81) rfl rfl rfl (ho_P k12) rfl rfl rfl rfl (fun Z13 eZ13 => ?_)
        replace H := dz_le H Z13 eZ13
        clear eZ13
        refine wp_s (i := .aload_n 0) (n := 1) (pc' := 82) (st' := [.ref 1]) rfl rfl ?_
        refine wp_s (i := .iconst 4) (n := 1) (pc' := 83) (st' := [dz_I 4, .ref 1]) rfl rfl ?_
        refine wq_cv (Dq := (D + 2)) (r' := mm_r35) (as0 := [dz_I 4]) (rest := []) (ls' := [some (.ref 1), some (dz_I 4)]) (pc' := 86) rfl rfl rfl rfl ho_R rfl rfl rfl ?_
        refine jw_R_needs (X := X) (D := D + 0) 4 Z13 (dz_pm (dz_bi H) (fun q14 H => ?_))
        show mm_Wp X (D + 3) mm_r38 86 [some (.ref 1), some (dz_I (Z ((Z 1 1 0).toNat) 0 0))] [dz_B q14.1] (hz_0 q14.2) Q
        refine wq_rb rfl rfl ?_
        replace H := dz_sm H
        exact H
      · replace H := dz_if c9 H
        refine wp_s (i := .iconst 0) (n := 1) (pc' := 54) (st' := [dz_I 0]) rfl rfl ?_
        refine wq_rf rfl rfl ?_
        replace H := dz_sm H
        exact H
    · replace H := dz_if c4 H
      refine wp_s (i := .iconst 0) (n := 1) (pc' := 30) (st' := [dz_I 0]) rfl rfl ?_
      refine wq_rf rfl rfl ?_
      replace H := dz_sm H
      exact H
  · replace H := dz_if c2 H
    refine wp_s (i := .aload_n 0) (n := 1) (pc' := 14) (st' := [.ref 1]) rfl rfl ?_
    refine wp_s (i := .iconst 5) (n := 1) (pc' := 15) (st' := [dz_I 5, .ref 1]) rfl rfl ?_
    refine wq_cv (Dq := (D + 2)) (r' := mm_r30) (as0 := [dz_I 5]) (rest := []) (ls' := [some (.ref 1), some (dz_I 5)]) (pc' := 18) rfl rfl rfl rfl ho_R rfl rfl rfl ?_
    refine jw_R_fail (X := X) (D := D + 2) 5 Z (dz_pm (dz_bi H) (fun q15 H => ?_))
    show mm_Wp X (D + 3) mm_r38 18 [some (.ref 1), some (dz_I (Z ((Z 1 1 0).toNat) 0 0))] [dz_B q15.1] (hz_0 q15.2) Q
    refine wq_rb rfl rfl ?_
    replace H := dz_sm H
    exact H
end mg_25m02
section mg_25m03
-- 40
def jf_R_readWay (a1 : Int) (Z : dz_Z) : Option (Bool × dz_Z) := Option.bind (jf_R_needs 2 Z) fun q1 => if q1.1 = true then (Option.bind (jf_R_isNamed 2 q1.2) fun q3 => if q3 = false then (Option.bind (jf_R_isNamed 3 q1.2) fun q5 => if q5 = false then (Option.bind (jf_R_isNamed 4 q1.2) fun q7 => if q7 = false then (Option.bind (jf_R_fail 2 q1.2) fun q9 => some (q9.1, q9.2)) else (dz_a (dz_u q1.2 1 9 0 20) fun Z10 => some (true, Z10))) else (Option.bind (jf_R_needsNumber 0 7 q1.2) fun q11 => dz_a (dz_u q11.2 1 9 0 ((q11.2 1 9 0) + 10)) fun Z12 => some (q11.1, Z12))) else (Option.bind (jf_R_needsNumber (a1 + 1) 4 q1.2) fun q13 => some (q13.1, q13.2))) else (some (false, q1.2))
set_option maxRecDepth 20000 in
theorem jw_R_readWay {X : Option (List Int32)} {D : Nat} {Q : Option Value → mm_H → Prop} (a1 : Int) (Z : dz_Z) (H : dz_p (jf_R_readWay a1 Z) (fun q => Q (some (dz_B q.1)) (hz_0 q.2))) : mm_Wp X (D + 5) mm_r40 0 [some (.ref 1), some (dz_I a1), none] [] (hz_0 Z) Q := by
  unfold jf_R_readWay at H
  refine wp_s (i := .aload_n 0) (n := 1) (pc' := 1) (st' := [.ref 1]) rfl rfl ?_
  refine wp_s (i := .iconst 2) (n := 1) (pc' := 2) (st' := [dz_I 2, .ref 1]) rfl rfl ?_
  refine wq_cv (Dq := (D + 4)) (r' := mm_r35) (as0 := [dz_I 2]) (rest := []) (ls' := [some (.ref 1), some (dz_I 2)]) (pc' := 5) rfl rfl rfl rfl ho_R rfl rfl rfl ?_
  refine jw_R_needs (X := X) (D := D + 2) 2 Z (dz_pm (dz_bi H) (fun q1 H => ?_))
  show mm_Wp X (D + 5) mm_r40 5 [some (.ref 1), some (dz_I a1), none] [dz_B q1.1] (hz_0 q1.2) Q
  refine wq_if (p := q1.1 = true) (tt := 10) (pc' := 8) rfl rfl (cb_ne) rfl (fun c2 => ?_) (fun c2 => ?_)
  · replace H := dz_it c2 H
    refine wp_s (i := .aload_n 0) (n := 1) (pc' := 11) (st' := [.ref 1]) rfl rfl ?_
    refine wp_s (i := .ldc 161) (n := 2) (pc' := 13) (st' := [.retAddr (1 + 2), .ref 1]) rfl rfl ?_
    refine wq_cv (Dq := (D + 4)) (r' := mm_r34) (as0 := [.retAddr (1 + 2)]) (rest := []) (ls' := [some (.ref 1), some (.retAddr (1 + 2)), none]) (pc' := 16) rfl rfl rfl rfl ho_R rfl rfl rfl ?_
    refine jw_R_isNamed (X := X) (D := D + 0) 2 (by decide) q1.2 (dz_pm (dz_bi H) (fun q3 H => ?_))
    show mm_Wp X (D + 5) mm_r40 16 [some (.ref 1), some (dz_I a1), none] [dz_B q3] (hz_0 q1.2) Q
    refine wq_if (p := q3 = false) (tt := 28) (pc' := 19) rfl rfl (cb_eq) rfl (fun c4 => ?_) (fun c4 => ?_)
    · replace H := dz_it c4 H
      refine wp_s (i := .aload_n 0) (n := 1) (pc' := 29) (st' := [.ref 1]) rfl rfl ?_
      refine wp_s (i := .ldc 107) (n := 2) (pc' := 31) (st' := [.retAddr (1 + 3), .ref 1]) rfl rfl ?_
      refine wq_cv (Dq := (D + 4)) (r' := mm_r34) (as0 := [.retAddr (1 + 3)]) (rest := []) (ls' := [some (.ref 1), some (.retAddr (1 + 3)), none]) (pc' := 34) rfl rfl rfl rfl ho_R rfl rfl rfl ?_
      refine jw_R_isNamed (X := X) (D := D + 0) 3 (by decide) q1.2 (dz_pm (dz_bi H) (fun q5 H => ?_))
      show mm_Wp X (D + 5) mm_r40 34 [some (.ref 1), some (dz_I a1), none] [dz_B q5] (hz_0 q1.2) Q
      refine wq_if (p := q5 = false) (tt := 58) (pc' := 37) rfl rfl (cb_eq) rfl (fun c6 => ?_) (fun c6 => ?_)
      · replace H := dz_it c6 H
        refine wp_s (i := .aload_n 0) (n := 1) (pc' := 59) (st' := [.ref 1]) rfl rfl ?_
        refine wp_s (i := .ldc 163) (n := 2) (pc' := 61) (st' := [.retAddr (1 + 4), .ref 1]) rfl rfl ?_
        refine wq_cv (Dq := (D + 4)) (r' := mm_r34) (as0 := [.retAddr (1 + 4)]) (rest := []) (ls' := [some (.ref 1), some (.retAddr (1 + 4)), none]) (pc' := 64) rfl rfl rfl rfl ho_R rfl rfl rfl ?_
        refine jw_R_isNamed (X := X) (D := D + 0) 4 (by decide) q1.2 (dz_pm (dz_bi H) (fun q7 H => ?_))
        show mm_Wp X (D + 5) mm_r40 64 [some (.ref 1), some (dz_I a1), none] [dz_B q7] (hz_0 q1.2) Q
        refine wq_if (p := q7 = false) (tt := 75) (pc' := 67) rfl rfl (cb_eq) rfl (fun c8 => ?_) (fun c8 => ?_)
        · replace H := dz_it c8 H
          refine wp_s (i := .aload_n 0) (n := 1) (pc' := 76) (st' := [.ref 1]) rfl rfl ?_
          refine wp_s (i := .iconst 2) (n := 1) (pc' := 77) (st' := [dz_I 2, .ref 1]) rfl rfl ?_
          refine wq_cv (Dq := (D + 4)) (r' := mm_r30) (as0 := [dz_I 2]) (rest := []) (ls' := [some (.ref 1), some (dz_I 2)]) (pc' := 80) rfl rfl rfl rfl ho_R rfl rfl rfl ?_
          refine jw_R_fail (X := X) (D := D + 4) 2 q1.2 (dz_pm (dz_bi H) (fun q9 H => ?_))
          show mm_Wp X (D + 5) mm_r40 80 [some (.ref 1), some (dz_I a1), none] [dz_B q9.1] (hz_0 q9.2) Q
          refine wq_rb rfl rfl ?_
          replace H := dz_sm H
          exact H
        · replace H := dz_if c8 H
          refine wp_s (i := .aload_n 0) (n := 1) (pc' := 68) (st' := [.ref 1]) rfl rfl ?_
          refine wp_s (i := .bipush 20) (n := 2) (pc' := 70) (st' := [dz_I 20, .ref 1]) rfl rfl ?_
          refine wq_pi (idx := 87) (x := 20) (pc' := 73) rfl rfl rfl ho_R rfl rfl rfl rfl (fun Z10 eZ10 => ?_)
          replace H := dz_le H Z10 eZ10
          clear eZ10
          refine wp_s (i := .iconst 1) (n := 1) (pc' := 74) (st' := [dz_I 1]) rfl rfl ?_
          refine wq_rt rfl rfl ?_
          replace H := dz_sm H
          exact H
      · replace H := dz_if c6 H
        refine wp_s (i := .aload_n 0) (n := 1) (pc' := 38) (st' := [.ref 1]) rfl rfl ?_
        refine wp_s (i := .iconst 0) (n := 1) (pc' := 39) (st' := [dz_I 0, .ref 1]) rfl rfl ?_
        refine wp_s (i := .bipush 7) (n := 2) (pc' := 41) (st' := [dz_I 7, dz_I 0, .ref 1]) rfl rfl ?_
        refine wq_cv (Dq := (D + 4)) (r' := mm_r36) (as0 := [dz_I 0, dz_I 7]) (rest := []) (ls' := [some (.ref 1), some (dz_I 0), some (dz_I 7)]) (pc' := 44) rfl rfl rfl rfl ho_R rfl rfl rfl ?_
        refine jw_R_needsNumber (X := X) (D := D + 2) 0 7 q1.2 (dz_pm (dz_bi H) (fun q11 H => ?_))
        show mm_Wp X (D + 5) mm_r40 44 [some (.ref 1), some (dz_I a1), none] [dz_B q11.1] (hz_0 q11.2) Q
        refine wq_st (k := 2) (i := .istore_n 2) (n := 1) (ls' := [some (.ref 1), some (dz_I a1), some (dz_B q11.1)]) (pc' := 45) rfl rfl rfl rfl rfl ?_
        refine wp_s (i := .aload_n 0) (n := 1) (pc' := 46) (st' := [.ref 1]) rfl rfl ?_
        refine wp_s (i := .dup) (n := 1) (pc' := 47) (st' := [.ref 1, .ref 1]) rfl rfl ?_
        refine wq_gi (idx := 87) (pc' := 50) rfl rfl ho_R rfl rfl ?_
        refine wp_s (i := .bipush 10) (n := 2) (pc' := 52) (st' := [dz_I 10, dz_I (q11.2 1 9 0), .ref 1]) rfl rfl ?_
        refine wq_2 (i := .iadd) (z := (q11.2 1 9 0) + 10) (pc' := 53) rfl rfl (op_add _ _) rfl ?_
        refine wq_pi (idx := 87) (x := (q11.2 1 9 0) + 10) (pc' := 56) rfl rfl rfl ho_R rfl rfl rfl rfl (fun Z12 eZ12 => ?_)
        replace H := dz_le H Z12 eZ12
        clear eZ12
        refine wp_s (i := .iload_n 2) (n := 1) (pc' := 57) (st' := [dz_B q11.1]) rfl rfl ?_
        refine wq_rb rfl rfl ?_
        replace H := dz_sm H
        exact H
    · replace H := dz_if c4 H
      refine wp_s (i := .aload_n 0) (n := 1) (pc' := 20) (st' := [.ref 1]) rfl rfl ?_
      refine wp_s (i := .iload_n 1) (n := 1) (pc' := 21) (st' := [dz_I a1, .ref 1]) rfl rfl ?_
      refine wp_s (i := .iconst 1) (n := 1) (pc' := 22) (st' := [dz_I 1, dz_I a1, .ref 1]) rfl rfl ?_
      refine wq_2 (i := .iadd) (z := a1 + 1) (pc' := 23) rfl rfl (op_add _ _) rfl ?_
      refine wp_s (i := .iconst 4) (n := 1) (pc' := 24) (st' := [dz_I 4, dz_I (a1 + 1), .ref 1]) rfl rfl ?_
      refine wq_cv (Dq := (D + 4)) (r' := mm_r36) (as0 := [dz_I (a1 + 1), dz_I 4]) (rest := []) (ls' := [some (.ref 1), some (dz_I (a1 + 1)), some (dz_I 4)]) (pc' := 27) rfl rfl rfl rfl ho_R rfl rfl rfl ?_
      refine jw_R_needsNumber (X := X) (D := D + 2) (a1 + 1) 4 q1.2 (dz_pm (dz_bi H) (fun q13 H => ?_))
      show mm_Wp X (D + 5) mm_r40 27 [some (.ref 1), some (dz_I a1), none] [dz_B q13.1] (hz_0 q13.2) Q
      refine wq_rb rfl rfl ?_
      replace H := dz_sm H
      exact H
  · replace H := dz_if c2 H
    refine wp_s (i := .iconst 0) (n := 1) (pc' := 9) (st' := [dz_I 0]) rfl rfl ?_
    refine wq_rf rfl rfl ?_
    replace H := dz_sm H
    exact H
-- 39
def jf_R_readPeg (Z : dz_Z) : Option (Bool × dz_Z) := if hz_isP (Z 1 1 0).toNat then if dz_c (Z ((Z 1 1 0).toNat) 3 0) < 5 then (Option.bind (jf_R_readWay (Z ((Z 1 1 0).toNat) 3 0) Z) fun q3 => if q3.1 = true then (if hz_isP (q3.2 1 1 0).toNat then if 0 ≤ dz_c (Z ((Z 1 1 0).toNat) 3 0) ∧ dz_c (Z ((Z 1 1 0).toNat) 3 0) < 5 then dz_a (dz_u q3.2 ((q3.2 1 1 0).toNat) 4 (dz_c (Z ((Z 1 1 0).toNat) 3 0)) (q3.2 1 9 0)) fun Z7 => Option.bind (jf_R_readWay (Z ((Z 1 1 0).toNat) 3 0) Z7) fun q8 => if q8.1 = true then (if hz_isP (q8.2 1 1 0).toNat then dz_a (dz_u q8.2 ((q8.2 1 1 0).toNat) 5 (dz_c (Z ((Z 1 1 0).toNat) 3 0)) (q8.2 1 9 0)) fun Z11 => if hz_isP (Z11 1 1 0).toNat then dz_a (dz_u Z11 ((Z11 1 1 0).toNat) 3 0 ((Z11 ((Z11 1 1 0).toNat) 3 0) + 1)) fun Z13 => Option.bind (jf_R_needs 4 Z13) fun q14 => some (q14.1, q14.2) else none else none) else (some (false, q8.2)) else none else none) else (some (false, q3.2))) else (Option.bind (jf_R_fail 5 Z) fun q15 => some (q15.1, q15.2)) else none
set_option maxRecDepth 20000 in
theorem jw_R_readPeg {X : Option (List Int32)} {D : Nat} {Q : Option Value → mm_H → Prop} (Z : dz_Z) (H : dz_p (jf_R_readPeg Z) (fun q => Q (some (dz_B q.1)) (hz_0 q.2))) : mm_Wp X (D + 6) mm_r39 0 [some (.ref 1), none] [] (hz_0 Z) Q := by
  unfold jf_R_readPeg at H
  refine wp_s (i := .aload_n 0) (n := 1) (pc' := 1) (st' := [.ref 1]) rfl rfl ?_
  obtain ⟨k1, H⟩ := dz_ck H
  refine wq_gd (idx := 21) (pc' := 4) rfl rfl ho_R rfl rfl ?_
  refine wq_gi (idx := 149) (pc' := 7) rfl rfl (ho_P k1) rfl rfl ?_
  refine wq_st (k := 1) (i := .istore_n 1) (n := 1) (ls' := [some (.ref 1), some (dz_I (Z ((Z 1 1 0).toNat) 3 0))]) (pc' := 8) rfl rfl rfl rfl rfl ?_
  refine wp_s (i := .iload_n 1) (n := 1) (pc' := 9) (st' := [dz_I (Z ((Z 1 1 0).toNat) 3 0)]) rfl rfl ?_
  refine wp_s (i := .iconst 5) (n := 1) (pc' := 10) (st' := [dz_I 5, dz_I (Z ((Z 1 1 0).toNat) 3 0)]) rfl rfl ?_
  refine wq_ic (p := dz_c (Z ((Z 1 1 0).toNat) 3 0) < 5) (tt := 19) (pc' := 13) rfl rfl (cq_lt rfl dk_5) rfl (fun c2 => ?_) (fun c2 => ?_)
  · replace H := dz_it c2 H
    refine wp_s (i := .aload_n 0) (n := 1) (pc' := 20) (st' := [.ref 1]) rfl rfl ?_
    refine wp_s (i := .iload_n 1) (n := 1) (pc' := 21) (st' := [dz_I (Z ((Z 1 1 0).toNat) 3 0), .ref 1]) rfl rfl ?_
    refine wq_cv (Dq := (D + 5)) (r' := mm_r40) (as0 := [dz_I (Z ((Z 1 1 0).toNat) 3 0)]) (rest := []) (ls' := [some (.ref 1), some (dz_I (Z ((Z 1 1 0).toNat) 3 0)), none]) (pc' := 24) rfl rfl rfl rfl ho_R rfl rfl rfl ?_
    refine jw_R_readWay (X := X) (D := D + 0) (Z ((Z 1 1 0).toNat) 3 0) Z (dz_pm (dz_bi H) (fun q3 H => ?_))
    show mm_Wp X (D + 6) mm_r39 24 [some (.ref 1), some (dz_I (Z ((Z 1 1 0).toNat) 3 0))] [dz_B q3.1] (hz_0 q3.2) Q
    refine wq_if (p := q3.1 = true) (tt := 29) (pc' := 27) rfl rfl (cb_ne) rfl (fun c4 => ?_) (fun c4 => ?_)
    · replace H := dz_it c4 H
      refine wp_s (i := .aload_n 0) (n := 1) (pc' := 30) (st' := [.ref 1]) rfl rfl ?_
      obtain ⟨k5, H⟩ := dz_ck H
      refine wq_gd (idx := 21) (pc' := 33) rfl rfl ho_R rfl rfl ?_
      refine wq_gr (idx := 155) (a := (q3.2 1 1 0).toNat + 3) (pc' := 36) rfl rfl (ho_P k5) rfl rfl ?_
      refine wp_s (i := .iload_n 1) (n := 1) (pc' := 37) (st' := [dz_I (Z ((Z 1 1 0).toNat) 3 0), .ref ((q3.2 1 1 0).toNat + 3)]) rfl rfl ?_
      refine wp_s (i := .aload_n 0) (n := 1) (pc' := 38) (st' := [.ref 1, dz_I (Z ((Z 1 1 0).toNat) 3 0), .ref ((q3.2 1 1 0).toNat + 3)]) rfl rfl ?_
      refine wq_gi (idx := 87) (pc' := 41) rfl rfl ho_R rfl rfl ?_
      obtain ⟨k6, H⟩ := dz_ck H
      refine wq_is (j' := dz_c (Z ((Z 1 1 0).toNat) 3 0)) (x := q3.2 1 9 0) (pc' := 42) rfl (ha_P_4 k5) rfl k6.1 k6.2 rfl (fun Z7 eZ7 => ?_)
      replace H := dz_le H Z7 eZ7
      clear eZ7
      refine wp_s (i := .aload_n 0) (n := 1) (pc' := 43) (st' := [.ref 1]) rfl rfl ?_
      refine wp_s (i := .iload_n 1) (n := 1) (pc' := 44) (st' := [dz_I (Z ((Z 1 1 0).toNat) 3 0), .ref 1]) rfl rfl ?_
      refine wq_cv (Dq := (D + 5)) (r' := mm_r40) (as0 := [dz_I (Z ((Z 1 1 0).toNat) 3 0)]) (rest := []) (ls' := [some (.ref 1), some (dz_I (Z ((Z 1 1 0).toNat) 3 0)), none]) (pc' := 47) rfl rfl rfl rfl ho_R rfl rfl rfl ?_
      refine jw_R_readWay (X := X) (D := D + 0) (Z ((Z 1 1 0).toNat) 3 0) Z7 (dz_pm (dz_bi H) (fun q8 H => ?_))
      show mm_Wp X (D + 6) mm_r39 47 [some (.ref 1), some (dz_I (Z ((Z 1 1 0).toNat) 3 0))] [dz_B q8.1] (hz_0 q8.2) Q
      refine wq_if (p := q8.1 = true) (tt := 52) (pc' := 50) rfl rfl (cb_ne) rfl (fun c9 => ?_) (fun c9 => ?_)
      · replace H := dz_it c9 H
        refine wp_s (i := .aload_n 0) (n := 1) (pc' := 53) (st' := [.ref 1]) rfl rfl ?_
        obtain ⟨k10, H⟩ := dz_ck H
        refine wq_gd (idx := 21) (pc' := 56) rfl rfl ho_R rfl rfl ?_
        refine wq_gr (idx := 158) (a := (q8.2 1 1 0).toNat + 4) (pc' := 59) rfl rfl (ho_P k10) rfl rfl ?_
        refine wp_s (i := .iload_n 1) (n := 1) (pc' := 60) (st' := [dz_I (Z ((Z 1 1 0).toNat) 3 0), .ref ((q8.2 1 1 0).toNat + 4)]) rfl rfl ?_
        refine wp_s (i := .aload_n 0) (n := 1) (pc' := 61) (st' := [.ref 1, dz_I (Z ((Z 1 1 0).toNat) 3 0), .ref ((q8.2 1 1 0).toNat + 4)]) rfl rfl ?_
        refine wq_gi (idx := 87) (pc' := 64) rfl rfl ho_R rfl rfl ?_
        refine wq_is (j' := dz_c (Z ((Z 1 1 0).toNat) 3 0)) (x := q8.2 1 9 0) (pc' := 65) rfl (ha_P_5 k10) rfl k6.1 k6.2 rfl (fun Z11 eZ11 => ?_)
        replace H := dz_le H Z11 eZ11
        clear eZ11
        refine wp_s (i := .aload_n 0) (n := 1) (pc' := 66) (st' := [.ref 1]) rfl rfl ?_
        obtain ⟨k12, H⟩ := dz_ck H
        refine wq_gd (idx := 21) (pc' := 69) rfl rfl ho_R rfl rfl ?_
        refine wp_s (i := .dup) (n := 1) (pc' := 70) (st' := [.ref ((Z11 1 1 0).toNat), .ref ((Z11 1 1 0).toNat)]) rfl rfl ?_
        refine wq_gi (idx := 149) (pc' := 73) rfl rfl (ho_P k12) rfl rfl ?_
        refine wp_s (i := .iconst 1) (n := 1) (pc' := 74) (st' := [dz_I 1, dz_I (Z11 ((Z11 1 1 0).toNat) 3 0), .ref ((Z11 1 1 0).toNat)]) rfl rfl ?_
        refine wq_2 (i := .iadd) (z := (Z11 ((Z11 1 1 0).toNat) 3 0) + 1) (pc' := 75) rfl rfl (op_add _ _) rfl ?_
        refine wq_pi (idx := 149) (x := (Z11 ((Z11 1 1 0).toNat) 3 0) + 1) (pc' := 78) rfl rfl rfl (ho_P k12) rfl rfl rfl rfl (fun Z13 eZ13 => ?_)
        replace H := dz_le H Z13 eZ13
        clear eZ13
        refine wp_s (i := .aload_n 0) (n := 1) (pc' := 79) (st' := [.ref 1]) rfl rfl ?_
        refine wp_s (i := .iconst 4) (n := 1) (pc' := 80) (st' := [dz_I 4, .ref 1]) rfl rfl ?_
        refine wq_cv (Dq := (D + 5)) (r' := mm_r35) (as0 := [dz_I 4]) (rest := []) (ls' := [some (.ref 1), some (dz_I 4)]) (pc' := 83) rfl rfl rfl rfl ho_R rfl rfl rfl ?_
        refine jw_R_needs (X := X) (D := D + 3) 4 Z13 (dz_pm (dz_bi H) (fun q14 H => ?_))
        show mm_Wp X (D + 6) mm_r39 83 [some (.ref 1), some (dz_I (Z ((Z 1 1 0).toNat) 3 0))] [dz_B q14.1] (hz_0 q14.2) Q
        refine wq_rb rfl rfl ?_
        replace H := dz_sm H
        exact H
      · replace H := dz_if c9 H
        refine wp_s (i := .iconst 0) (n := 1) (pc' := 51) (st' := [dz_I 0]) rfl rfl ?_
        refine wq_rf rfl rfl ?_
        replace H := dz_sm H
        exact H
    · replace H := dz_if c4 H
      refine wp_s (i := .iconst 0) (n := 1) (pc' := 28) (st' := [dz_I 0]) rfl rfl ?_
      refine wq_rf rfl rfl ?_
      replace H := dz_sm H
      exact H
  · replace H := dz_if c2 H
    refine wp_s (i := .aload_n 0) (n := 1) (pc' := 14) (st' := [.ref 1]) rfl rfl ?_
    refine wp_s (i := .iconst 5) (n := 1) (pc' := 15) (st' := [dz_I 5, .ref 1]) rfl rfl ?_
    refine wq_cv (Dq := (D + 5)) (r' := mm_r30) (as0 := [dz_I 5]) (rest := []) (ls' := [some (.ref 1), some (dz_I 5)]) (pc' := 18) rfl rfl rfl rfl ho_R rfl rfl rfl ?_
    refine jw_R_fail (X := X) (D := D + 5) 5 Z (dz_pm (dz_bi H) (fun q15 H => ?_))
    show mm_Wp X (D + 6) mm_r39 18 [some (.ref 1), some (dz_I (Z ((Z 1 1 0).toNat) 3 0))] [dz_B q15.1] (hz_0 q15.2) Q
    refine wq_rb rfl rfl ?_
    replace H := dz_sm H
    exact H
-- 43
def jf_R_namedKind (Z : dz_Z) : Option (Int) := Option.bind (jf_R_isNamed 5 Z) fun q1 => if q1 = false then (Option.bind (jf_R_isNamed 6 Z) fun q3 => if q3 = false then (Option.bind (jf_R_isNamed 7 Z) fun q5 => if q5 = false then (Option.bind (jf_R_isNamed 8 Z) fun q7 => if q7 = false then (Option.bind (jf_R_isNamed 9 Z) fun q9 => if q9 = false then (Option.bind (jf_R_isNamed 10 Z) fun q11 => if q11 = false then (some (-4)) else (some 5)) else (some 4)) else (some 3)) else (some 2)) else (some 1)) else (some 0)
set_option maxRecDepth 20000 in
theorem jw_R_namedKind {X : Option (List Int32)} {D : Nat} {Q : Option Value → mm_H → Prop} (Z : dz_Z) (H : dz_p (jf_R_namedKind Z) (fun q => Q (some (dz_I q)) (hz_0 Z))) : mm_Wp X (D + 5) mm_r43 0 [some (.ref 1)] [] (hz_0 Z) Q := by
  unfold jf_R_namedKind at H
  refine wp_s (i := .aload_n 0) (n := 1) (pc' := 1) (st' := [.ref 1]) rfl rfl ?_
  refine wp_s (i := .ldc 189) (n := 2) (pc' := 3) (st' := [.retAddr (1 + 5), .ref 1]) rfl rfl ?_
  refine wq_cv (Dq := (D + 4)) (r' := mm_r34) (as0 := [.retAddr (1 + 5)]) (rest := []) (ls' := [some (.ref 1), some (.retAddr (1 + 5)), none]) (pc' := 6) rfl rfl rfl rfl ho_R rfl rfl rfl ?_
  refine jw_R_isNamed (X := X) (D := D + 0) 5 (by decide) Z (dz_pm (dz_bi H) (fun q1 H => ?_))
  show mm_Wp X (D + 5) mm_r43 6 [some (.ref 1)] [dz_B q1] (hz_0 Z) Q
  refine wq_if (p := q1 = false) (tt := 11) (pc' := 9) rfl rfl (cb_eq) rfl (fun c2 => ?_) (fun c2 => ?_)
  · replace H := dz_it c2 H
    refine wp_s (i := .aload_n 0) (n := 1) (pc' := 12) (st' := [.ref 1]) rfl rfl ?_
    refine wp_s (i := .ldc 191) (n := 2) (pc' := 14) (st' := [.retAddr (1 + 6), .ref 1]) rfl rfl ?_
    refine wq_cv (Dq := (D + 4)) (r' := mm_r34) (as0 := [.retAddr (1 + 6)]) (rest := []) (ls' := [some (.ref 1), some (.retAddr (1 + 6)), none]) (pc' := 17) rfl rfl rfl rfl ho_R rfl rfl rfl ?_
    refine jw_R_isNamed (X := X) (D := D + 0) 6 (by decide) Z (dz_pm (dz_bi H) (fun q3 H => ?_))
    show mm_Wp X (D + 5) mm_r43 17 [some (.ref 1)] [dz_B q3] (hz_0 Z) Q
    refine wq_if (p := q3 = false) (tt := 22) (pc' := 20) rfl rfl (cb_eq) rfl (fun c4 => ?_) (fun c4 => ?_)
    · replace H := dz_it c4 H
      refine wp_s (i := .aload_n 0) (n := 1) (pc' := 23) (st' := [.ref 1]) rfl rfl ?_
      refine wp_s (i := .ldc 193) (n := 2) (pc' := 25) (st' := [.retAddr (1 + 7), .ref 1]) rfl rfl ?_
      refine wq_cv (Dq := (D + 4)) (r' := mm_r34) (as0 := [.retAddr (1 + 7)]) (rest := []) (ls' := [some (.ref 1), some (.retAddr (1 + 7)), none]) (pc' := 28) rfl rfl rfl rfl ho_R rfl rfl rfl ?_
      refine jw_R_isNamed (X := X) (D := D + 0) 7 (by decide) Z (dz_pm (dz_bi H) (fun q5 H => ?_))
      show mm_Wp X (D + 5) mm_r43 28 [some (.ref 1)] [dz_B q5] (hz_0 Z) Q
      refine wq_if (p := q5 = false) (tt := 33) (pc' := 31) rfl rfl (cb_eq) rfl (fun c6 => ?_) (fun c6 => ?_)
      · replace H := dz_it c6 H
        refine wp_s (i := .aload_n 0) (n := 1) (pc' := 34) (st' := [.ref 1]) rfl rfl ?_
        refine wp_s (i := .ldc 195) (n := 2) (pc' := 36) (st' := [.retAddr (1 + 8), .ref 1]) rfl rfl ?_
        refine wq_cv (Dq := (D + 4)) (r' := mm_r34) (as0 := [.retAddr (1 + 8)]) (rest := []) (ls' := [some (.ref 1), some (.retAddr (1 + 8)), none]) (pc' := 39) rfl rfl rfl rfl ho_R rfl rfl rfl ?_
        refine jw_R_isNamed (X := X) (D := D + 0) 8 (by decide) Z (dz_pm (dz_bi H) (fun q7 H => ?_))
        show mm_Wp X (D + 5) mm_r43 39 [some (.ref 1)] [dz_B q7] (hz_0 Z) Q
        refine wq_if (p := q7 = false) (tt := 44) (pc' := 42) rfl rfl (cb_eq) rfl (fun c8 => ?_) (fun c8 => ?_)
        · replace H := dz_it c8 H
          refine wp_s (i := .aload_n 0) (n := 1) (pc' := 45) (st' := [.ref 1]) rfl rfl ?_
          refine wp_s (i := .ldc 197) (n := 2) (pc' := 47) (st' := [.retAddr (1 + 9), .ref 1]) rfl rfl ?_
          refine wq_cv (Dq := (D + 4)) (r' := mm_r34) (as0 := [.retAddr (1 + 9)]) (rest := []) (ls' := [some (.ref 1), some (.retAddr (1 + 9)), none]) (pc' := 50) rfl rfl rfl rfl ho_R rfl rfl rfl ?_
          refine jw_R_isNamed (X := X) (D := D + 0) 9 (by decide) Z (dz_pm (dz_bi H) (fun q9 H => ?_))
          show mm_Wp X (D + 5) mm_r43 50 [some (.ref 1)] [dz_B q9] (hz_0 Z) Q
          refine wq_if (p := q9 = false) (tt := 55) (pc' := 53) rfl rfl (cb_eq) rfl (fun c10 => ?_) (fun c10 => ?_)
          · replace H := dz_it c10 H
            refine wp_s (i := .aload_n 0) (n := 1) (pc' := 56) (st' := [.ref 1]) rfl rfl ?_
            refine wp_s (i := .ldc 199) (n := 2) (pc' := 58) (st' := [.retAddr (1 + 10), .ref 1]) rfl rfl ?_
            refine wq_cv (Dq := (D + 4)) (r' := mm_r34) (as0 := [.retAddr (1 + 10)]) (rest := []) (ls' := [some (.ref 1), some (.retAddr (1 + 10)), none]) (pc' := 61) rfl rfl rfl rfl ho_R rfl rfl rfl ?_
            refine jw_R_isNamed (X := X) (D := D + 0) 10 (by decide) Z (dz_pm (dz_bi H) (fun q11 H => ?_))
            show mm_Wp X (D + 5) mm_r43 61 [some (.ref 1)] [dz_B q11] (hz_0 Z) Q
            refine wq_if (p := q11 = false) (tt := 68) (pc' := 64) rfl rfl (cb_eq) rfl (fun c12 => ?_) (fun c12 => ?_)
            · replace H := dz_it c12 H
              refine wp_s (i := .bipush (-4)) (n := 2) (pc' := 70) (st' := [dz_I (-4)]) rfl rfl ?_
              refine wq_ri rfl rfl ?_
              replace H := dz_sm H
              exact H
            · replace H := dz_if c12 H
              refine wp_s (i := .iconst 5) (n := 1) (pc' := 65) (st' := [dz_I 5]) rfl rfl ?_
              refine wp_s (i := .goto 5) (n := 3) (pc' := 70) (st' := [dz_I 5]) rfl rfl ?_
              refine wq_ri rfl rfl ?_
              replace H := dz_sm H
              exact H
          · replace H := dz_if c10 H
            refine wp_s (i := .iconst 4) (n := 1) (pc' := 54) (st' := [dz_I 4]) rfl rfl ?_
            refine wq_ri rfl rfl ?_
            replace H := dz_sm H
            exact H
        · replace H := dz_if c8 H
          refine wp_s (i := .iconst 3) (n := 1) (pc' := 43) (st' := [dz_I 3]) rfl rfl ?_
          refine wq_ri rfl rfl ?_
          replace H := dz_sm H
          exact H
      · replace H := dz_if c6 H
        refine wp_s (i := .iconst 2) (n := 1) (pc' := 32) (st' := [dz_I 2]) rfl rfl ?_
        refine wq_ri rfl rfl ?_
        replace H := dz_sm H
        exact H
    · replace H := dz_if c4 H
      refine wp_s (i := .iconst 1) (n := 1) (pc' := 21) (st' := [dz_I 1]) rfl rfl ?_
      refine wq_ri rfl rfl ?_
      replace H := dz_sm H
      exact H
  · replace H := dz_if c2 H
    refine wp_s (i := .iconst 0) (n := 1) (pc' := 10) (st' := [dz_I 0]) rfl rfl ?_
    refine wq_ri rfl rfl ?_
    replace H := dz_sm H
    exact H
-- 110
def jf_O_hasSize (a1 : Int) : Option (Bool) := if dz_c a1 = 0 then (some false) else (if dz_c a1 = 5 then (some false) else (some true))
set_option maxRecDepth 20000 in
theorem jw_O_hasSize {X : Option (List Int32)} {D : Nat} {Q : Option Value → mm_H → Prop} (a1 : Int) (Z : dz_Z) (H : dz_p (jf_O_hasSize a1) (fun q => Q (some (dz_B q)) (hz_0 Z))) : mm_Wp X D mm_r110 0 [some (dz_I a1)] [] (hz_0 Z) Q := by
  unfold jf_O_hasSize at H
  refine wp_s (i := .iload_n 0) (n := 1) (pc' := 1) (st' := [dz_I a1]) rfl rfl ?_
  refine wq_if (p := dz_c a1 = 0) (tt := 13) (pc' := 4) rfl rfl (cz_eq rfl) rfl (fun c1 => ?_) (fun c1 => ?_)
  · replace H := dz_it c1 H
    refine wp_s (i := .iconst 0) (n := 1) (pc' := 14) (st' := [dz_I 0]) rfl rfl ?_
    refine wq_rf rfl rfl ?_
    replace H := dz_sm H
    exact H
  · replace H := dz_if c1 H
    refine wp_s (i := .iload_n 0) (n := 1) (pc' := 5) (st' := [dz_I a1]) rfl rfl ?_
    refine wp_s (i := .iconst 5) (n := 1) (pc' := 6) (st' := [dz_I 5, dz_I a1]) rfl rfl ?_
    refine wq_ic (p := dz_c a1 = 5) (tt := 13) (pc' := 9) rfl rfl (cq_eq rfl dk_5) rfl (fun c2 => ?_) (fun c2 => ?_)
    · replace H := dz_it c2 H
      refine wp_s (i := .iconst 0) (n := 1) (pc' := 14) (st' := [dz_I 0]) rfl rfl ?_
      refine wq_rf rfl rfl ?_
      replace H := dz_sm H
      exact H
    · replace H := dz_if c2 H
      refine wp_s (i := .iconst 1) (n := 1) (pc' := 10) (st' := [dz_I 1]) rfl rfl ?_
      refine wp_s (i := .goto 4) (n := 3) (pc' := 14) (st' := [dz_I 1]) rfl rfl ?_
      refine wq_rt rfl rfl ?_
      replace H := dz_sm H
      exact H
-- 42
def jf_R_readCup (a1 : Int) (Z : dz_Z) : Option (Bool × dz_Z) := Option.bind (jf_R_needs 2 Z) fun q1 => if q1.1 = true then (Option.bind (jf_R_namedKind q1.2) fun q3 => if dz_c q3 ≠ (-4) then (if hz_isS (q1.2 1 2 0).toNat then if 0 ≤ dz_c a1 ∧ dz_c a1 < 8 then dz_a (dz_u q1.2 ((q1.2 1 2 0).toNat) 2 (dz_c a1) q3) fun Z7 => Option.bind (jf_O_hasSize q3) fun q8 => if q8 = true then (Option.bind (jf_R_needsNumber 1 30 Z7) fun q10 => if q10.1 = true then (if hz_isP (q10.2 1 1 0).toNat then dz_a (dz_u q10.2 ((q10.2 1 1 0).toNat) 8 (dz_c a1) (q10.2 1 9 0)) fun Z13 => if dz_c q3 = 4 then (Option.bind (jf_R_needsNumber 0 7 Z13) fun q15 => if q15.1 = true then (if hz_isP (q15.2 1 1 0).toNat then dz_a (dz_u q15.2 ((q15.2 1 1 0).toNat) 9 (dz_c a1) (q15.2 1 9 0)) fun Z18 => if dz_c (Z18 1 9 0) ≠ dz_c a1 then (some (true, Z18)) else (Option.bind (jf_R_fail 3 Z18) fun q20 => if q20.1 = false then (some (false, q20.2)) else (some (true, q20.2))) else none) else (some (false, q15.2))) else (some (true, Z13)) else none) else (some (false, q10.2))) else (some (true, Z7)) else none else none) else (Option.bind (jf_R_fail 2 q1.2) fun q22 => some (q22.1, q22.2))) else (some (false, q1.2))
set_option maxRecDepth 20000 in
theorem jw_R_readCup {X : Option (List Int32)} {D : Nat} {Q : Option Value → mm_H → Prop} (a1 : Int) (Z : dz_Z) (H : dz_p (jf_R_readCup a1 Z) (fun q => Q (some (dz_B q.1)) (hz_0 q.2))) : mm_Wp X (D + 6) mm_r42 0 [some (.ref 1), some (dz_I a1), none] [] (hz_0 Z) Q := by
  unfold jf_R_readCup at H
  refine wp_s (i := .aload_n 0) (n := 1) (pc' := 1) (st' := [.ref 1]) rfl rfl ?_
  refine wp_s (i := .iconst 2) (n := 1) (pc' := 2) (st' := [dz_I 2, .ref 1]) rfl rfl ?_
  refine wq_cv (Dq := (D + 5)) (r' := mm_r35) (as0 := [dz_I 2]) (rest := []) (ls' := [some (.ref 1), some (dz_I 2)]) (pc' := 5) rfl rfl rfl rfl ho_R rfl rfl rfl ?_
  refine jw_R_needs (X := X) (D := D + 3) 2 Z (dz_pm (dz_bi H) (fun q1 H => ?_))
  show mm_Wp X (D + 6) mm_r42 5 [some (.ref 1), some (dz_I a1), none] [dz_B q1.1] (hz_0 q1.2) Q
  refine wq_if (p := q1.1 = true) (tt := 10) (pc' := 8) rfl rfl (cb_ne) rfl (fun c2 => ?_) (fun c2 => ?_)
  · replace H := dz_it c2 H
    refine wp_s (i := .aload_n 0) (n := 1) (pc' := 11) (st' := [.ref 1]) rfl rfl ?_
    refine wq_cv (Dq := (D + 5)) (r' := mm_r43) (as0 := []) (rest := []) (ls' := [some (.ref 1)]) (pc' := 14) rfl rfl rfl rfl ho_R rfl rfl rfl ?_
    refine jw_R_namedKind (X := X) (D := D + 0) q1.2 (dz_pm (dz_bi H) (fun q3 H => ?_))
    show mm_Wp X (D + 6) mm_r42 14 [some (.ref 1), some (dz_I a1), none] [dz_I q3] (hz_0 q1.2) Q
    refine wq_st (k := 2) (i := .istore_n 2) (n := 1) (ls' := [some (.ref 1), some (dz_I a1), some (dz_I q3)]) (pc' := 15) rfl rfl rfl rfl rfl ?_
    refine wp_s (i := .iload_n 2) (n := 1) (pc' := 16) (st' := [dz_I q3]) rfl rfl ?_
    refine wp_s (i := .bipush (-4)) (n := 2) (pc' := 18) (st' := [dz_I (-4), dz_I q3]) rfl rfl ?_
    refine wq_ic (p := dz_c q3 ≠ (-4)) (tt := 27) (pc' := 21) rfl rfl (cq_ne rfl dk_m4) rfl (fun c4 => ?_) (fun c4 => ?_)
    · replace H := dz_it c4 H
      refine wp_s (i := .aload_n 0) (n := 1) (pc' := 28) (st' := [.ref 1]) rfl rfl ?_
      obtain ⟨k5, H⟩ := dz_ck H
      refine wq_gd (idx := 28) (pc' := 31) rfl rfl ho_R rfl rfl ?_
      refine wq_gr (idx := 177) (a := (q1.2 1 2 0).toNat + 3) (pc' := 34) rfl rfl (ho_S k5) rfl rfl ?_
      refine wp_s (i := .iload_n 1) (n := 1) (pc' := 35) (st' := [dz_I a1, .ref ((q1.2 1 2 0).toNat + 3)]) rfl rfl ?_
      refine wp_s (i := .iload_n 2) (n := 1) (pc' := 36) (st' := [dz_I q3, dz_I a1, .ref ((q1.2 1 2 0).toNat + 3)]) rfl rfl ?_
      obtain ⟨k6, H⟩ := dz_ck H
      refine wq_is (j' := dz_c a1) (x := q3) (pc' := 37) rfl (ha_S_2 k5) rfl k6.1 k6.2 rfl (fun Z7 eZ7 => ?_)
      replace H := dz_le H Z7 eZ7
      clear eZ7
      refine wp_s (i := .iload_n 2) (n := 1) (pc' := 38) (st' := [dz_I q3]) rfl rfl ?_
      refine wq_cs (Dq := (D + 5)) (r' := mm_r110) (as0 := [dz_I q3]) (rest := []) (ls' := [some (dz_I q3)]) (pc' := 41) rfl rfl (by decide) rfl rfl rfl rfl rfl ?_
      refine jw_O_hasSize (X := X) (D := D + 5) q3 Z7 (dz_pm (dz_bi H) (fun q8 H => ?_))
      show mm_Wp X (D + 6) mm_r42 41 [some (.ref 1), some (dz_I a1), some (dz_I q3)] [dz_B q8] (hz_0 Z7) Q
      refine wq_if (p := q8 = true) (tt := 46) (pc' := 44) rfl rfl (cb_ne) rfl (fun c9 => ?_) (fun c9 => ?_)
      · replace H := dz_it c9 H
        refine wp_s (i := .aload_n 0) (n := 1) (pc' := 47) (st' := [.ref 1]) rfl rfl ?_
        refine wp_s (i := .iconst 1) (n := 1) (pc' := 48) (st' := [dz_I 1, .ref 1]) rfl rfl ?_
        refine wp_s (i := .bipush 30) (n := 2) (pc' := 50) (st' := [dz_I 30, dz_I 1, .ref 1]) rfl rfl ?_
        refine wq_cv (Dq := (D + 5)) (r' := mm_r36) (as0 := [dz_I 1, dz_I 30]) (rest := []) (ls' := [some (.ref 1), some (dz_I 1), some (dz_I 30)]) (pc' := 53) rfl rfl rfl rfl ho_R rfl rfl rfl ?_
        refine jw_R_needsNumber (X := X) (D := D + 3) 1 30 Z7 (dz_pm (dz_bi H) (fun q10 H => ?_))
        show mm_Wp X (D + 6) mm_r42 53 [some (.ref 1), some (dz_I a1), some (dz_I q3)] [dz_B q10.1] (hz_0 q10.2) Q
        refine wq_if (p := q10.1 = true) (tt := 58) (pc' := 56) rfl rfl (cb_ne) rfl (fun c11 => ?_) (fun c11 => ?_)
        · replace H := dz_it c11 H
          refine wp_s (i := .aload_n 0) (n := 1) (pc' := 59) (st' := [.ref 1]) rfl rfl ?_
          obtain ⟨k12, H⟩ := dz_ck H
          refine wq_gd (idx := 21) (pc' := 62) rfl rfl ho_R rfl rfl ?_
          refine wq_gr (idx := 183) (a := (q10.2 1 1 0).toNat + 6) (pc' := 65) rfl rfl (ho_P k12) rfl rfl ?_
          refine wp_s (i := .iload_n 1) (n := 1) (pc' := 66) (st' := [dz_I a1, .ref ((q10.2 1 1 0).toNat + 6)]) rfl rfl ?_
          refine wp_s (i := .aload_n 0) (n := 1) (pc' := 67) (st' := [.ref 1, dz_I a1, .ref ((q10.2 1 1 0).toNat + 6)]) rfl rfl ?_
          refine wq_gi (idx := 87) (pc' := 70) rfl rfl ho_R rfl rfl ?_
          refine wq_is (j' := dz_c a1) (x := q10.2 1 9 0) (pc' := 71) rfl (ha_P_8 k12) rfl k6.1 k6.2 rfl (fun Z13 eZ13 => ?_)
          replace H := dz_le H Z13 eZ13
          clear eZ13
          refine wp_s (i := .iload_n 2) (n := 1) (pc' := 72) (st' := [dz_I q3]) rfl rfl ?_
          refine wp_s (i := .iconst 4) (n := 1) (pc' := 73) (st' := [dz_I 4, dz_I q3]) rfl rfl ?_
          refine wq_ic (p := dz_c q3 = 4) (tt := 78) (pc' := 76) rfl rfl (cq_eq rfl dk_4) rfl (fun c14 => ?_) (fun c14 => ?_)
          · replace H := dz_it c14 H
            refine wp_s (i := .aload_n 0) (n := 1) (pc' := 79) (st' := [.ref 1]) rfl rfl ?_
            refine wp_s (i := .iconst 0) (n := 1) (pc' := 80) (st' := [dz_I 0, .ref 1]) rfl rfl ?_
            refine wp_s (i := .bipush 7) (n := 2) (pc' := 82) (st' := [dz_I 7, dz_I 0, .ref 1]) rfl rfl ?_
            refine wq_cv (Dq := (D + 5)) (r' := mm_r36) (as0 := [dz_I 0, dz_I 7]) (rest := []) (ls' := [some (.ref 1), some (dz_I 0), some (dz_I 7)]) (pc' := 85) rfl rfl rfl rfl ho_R rfl rfl rfl ?_
            refine jw_R_needsNumber (X := X) (D := D + 3) 0 7 Z13 (dz_pm (dz_bi H) (fun q15 H => ?_))
            show mm_Wp X (D + 6) mm_r42 85 [some (.ref 1), some (dz_I a1), some (dz_I q3)] [dz_B q15.1] (hz_0 q15.2) Q
            refine wq_if (p := q15.1 = true) (tt := 90) (pc' := 88) rfl rfl (cb_ne) rfl (fun c16 => ?_) (fun c16 => ?_)
            · replace H := dz_it c16 H
              refine wp_s (i := .aload_n 0) (n := 1) (pc' := 91) (st' := [.ref 1]) rfl rfl ?_
              obtain ⟨k17, H⟩ := dz_ck H
              refine wq_gd (idx := 21) (pc' := 94) rfl rfl ho_R rfl rfl ?_
              refine wq_gr (idx := 186) (a := (q15.2 1 1 0).toNat + 7) (pc' := 97) rfl rfl (ho_P k17) rfl rfl ?_
              refine wp_s (i := .iload_n 1) (n := 1) (pc' := 98) (st' := [dz_I a1, .ref ((q15.2 1 1 0).toNat + 7)]) rfl rfl ?_
              refine wp_s (i := .aload_n 0) (n := 1) (pc' := 99) (st' := [.ref 1, dz_I a1, .ref ((q15.2 1 1 0).toNat + 7)]) rfl rfl ?_
              refine wq_gi (idx := 87) (pc' := 102) rfl rfl ho_R rfl rfl ?_
              refine wq_is (j' := dz_c a1) (x := q15.2 1 9 0) (pc' := 103) rfl (ha_P_9 k17) rfl k6.1 k6.2 rfl (fun Z18 eZ18 => ?_)
              replace H := dz_le H Z18 eZ18
              clear eZ18
              refine wp_s (i := .aload_n 0) (n := 1) (pc' := 104) (st' := [.ref 1]) rfl rfl ?_
              refine wq_gi (idx := 87) (pc' := 107) rfl rfl ho_R rfl rfl ?_
              refine wp_s (i := .iload_n 1) (n := 1) (pc' := 108) (st' := [dz_I a1, dz_I (Z18 1 9 0)]) rfl rfl ?_
              refine wq_ic (p := dz_c (Z18 1 9 0) ≠ dz_c a1) (tt := 119) (pc' := 111) rfl rfl (cq_ne rfl rfl) rfl (fun c19 => ?_) (fun c19 => ?_)
              · replace H := dz_it c19 H
                refine wp_s (i := .iconst 1) (n := 1) (pc' := 120) (st' := [dz_I 1]) rfl rfl ?_
                refine wp_s (i := .goto 4) (n := 3) (pc' := 124) (st' := [dz_I 1]) rfl rfl ?_
                refine wq_rt rfl rfl ?_
                replace H := dz_sm H
                exact H
              · replace H := dz_if c19 H
                refine wp_s (i := .aload_n 0) (n := 1) (pc' := 112) (st' := [.ref 1]) rfl rfl ?_
                refine wp_s (i := .iconst 3) (n := 1) (pc' := 113) (st' := [dz_I 3, .ref 1]) rfl rfl ?_
                refine wq_cv (Dq := (D + 5)) (r' := mm_r30) (as0 := [dz_I 3]) (rest := []) (ls' := [some (.ref 1), some (dz_I 3)]) (pc' := 116) rfl rfl rfl rfl ho_R rfl rfl rfl ?_
                refine jw_R_fail (X := X) (D := D + 5) 3 Z18 (dz_pm (dz_bi H) (fun q20 H => ?_))
                show mm_Wp X (D + 6) mm_r42 116 [some (.ref 1), some (dz_I a1), some (dz_I q3)] [dz_B q20.1] (hz_0 q20.2) Q
                refine wq_if (p := q20.1 = false) (tt := 123) (pc' := 119) rfl rfl (cb_eq) rfl (fun c21 => ?_) (fun c21 => ?_)
                · replace H := dz_it c21 H
                  refine wp_s (i := .iconst 0) (n := 1) (pc' := 124) (st' := [dz_I 0]) rfl rfl ?_
                  refine wq_rf rfl rfl ?_
                  replace H := dz_sm H
                  exact H
                · replace H := dz_if c21 H
                  refine wp_s (i := .iconst 1) (n := 1) (pc' := 120) (st' := [dz_I 1]) rfl rfl ?_
                  refine wp_s (i := .goto 4) (n := 3) (pc' := 124) (st' := [dz_I 1]) rfl rfl ?_
                  refine wq_rt rfl rfl ?_
                  replace H := dz_sm H
                  exact H
            · replace H := dz_if c16 H
              refine wp_s (i := .iconst 0) (n := 1) (pc' := 89) (st' := [dz_I 0]) rfl rfl ?_
              refine wq_rf rfl rfl ?_
              replace H := dz_sm H
              exact H
          · replace H := dz_if c14 H
            refine wp_s (i := .iconst 1) (n := 1) (pc' := 77) (st' := [dz_I 1]) rfl rfl ?_
            refine wq_rt rfl rfl ?_
            replace H := dz_sm H
            exact H
        · replace H := dz_if c11 H
          refine wp_s (i := .iconst 0) (n := 1) (pc' := 57) (st' := [dz_I 0]) rfl rfl ?_
          refine wq_rf rfl rfl ?_
          replace H := dz_sm H
          exact H
      · replace H := dz_if c9 H
        refine wp_s (i := .iconst 1) (n := 1) (pc' := 45) (st' := [dz_I 1]) rfl rfl ?_
        refine wq_rt rfl rfl ?_
        replace H := dz_sm H
        exact H
    · replace H := dz_if c4 H
      refine wp_s (i := .aload_n 0) (n := 1) (pc' := 22) (st' := [.ref 1]) rfl rfl ?_
      refine wp_s (i := .iconst 2) (n := 1) (pc' := 23) (st' := [dz_I 2, .ref 1]) rfl rfl ?_
      refine wq_cv (Dq := (D + 5)) (r' := mm_r30) (as0 := [dz_I 2]) (rest := []) (ls' := [some (.ref 1), some (dz_I 2)]) (pc' := 26) rfl rfl rfl rfl ho_R rfl rfl rfl ?_
      refine jw_R_fail (X := X) (D := D + 5) 2 q1.2 (dz_pm (dz_bi H) (fun q22 H => ?_))
      show mm_Wp X (D + 6) mm_r42 26 [some (.ref 1), some (dz_I a1), some (dz_I q3)] [dz_B q22.1] (hz_0 q22.2) Q
      refine wq_rb rfl rfl ?_
      replace H := dz_sm H
      exact H
  · replace H := dz_if c2 H
    refine wp_s (i := .iconst 0) (n := 1) (pc' := 9) (st' := [dz_I 0]) rfl rfl ?_
    refine wq_rf rfl rfl ?_
    replace H := dz_sm H
    exact H
-- 41
def jf_R_readSpout (Z : dz_Z) : Option (Bool × dz_Z) := if hz_isP (Z 1 1 0).toNat then if dz_c (Z ((Z 1 1 0).toNat) 6 0) < 8 then (Option.bind (jf_R_needsNumber 0 7 Z) fun q3 => if q3.1 = true then (if hz_isP (q3.2 1 1 0).toNat then if 0 ≤ dz_c (Z ((Z 1 1 0).toNat) 6 0) ∧ dz_c (Z ((Z 1 1 0).toNat) 6 0) < 8 then dz_a (dz_u q3.2 ((q3.2 1 1 0).toNat) 7 (dz_c (Z ((Z 1 1 0).toNat) 6 0)) (q3.2 1 9 0)) fun Z7 => Option.bind (jf_R_readCup (Z ((Z 1 1 0).toNat) 6 0) Z7) fun q8 => if q8.1 = true then (if hz_isP (q8.2 1 1 0).toNat then dz_a (dz_u q8.2 ((q8.2 1 1 0).toNat) 6 0 ((q8.2 ((q8.2 1 1 0).toNat) 6 0) + 1)) fun Z11 => Option.bind (jf_R_needs 4 Z11) fun q12 => some (q12.1, q12.2) else none) else (some (false, q8.2)) else none else none) else (some (false, q3.2))) else (Option.bind (jf_R_fail 5 Z) fun q13 => some (q13.1, q13.2)) else none
set_option maxRecDepth 20000 in
theorem jw_R_readSpout {X : Option (List Int32)} {D : Nat} {Q : Option Value → mm_H → Prop} (Z : dz_Z) (H : dz_p (jf_R_readSpout Z) (fun q => Q (some (dz_B q.1)) (hz_0 q.2))) : mm_Wp X (D + 7) mm_r41 0 [some (.ref 1), none] [] (hz_0 Z) Q := by
  unfold jf_R_readSpout at H
  refine wp_s (i := .aload_n 0) (n := 1) (pc' := 1) (st' := [.ref 1]) rfl rfl ?_
  obtain ⟨k1, H⟩ := dz_ck H
  refine wq_gd (idx := 21) (pc' := 4) rfl rfl ho_R rfl rfl ?_
  refine wq_gi (idx := 165) (pc' := 7) rfl rfl (ho_P k1) rfl rfl ?_
  refine wq_st (k := 1) (i := .istore_n 1) (n := 1) (ls' := [some (.ref 1), some (dz_I (Z ((Z 1 1 0).toNat) 6 0))]) (pc' := 8) rfl rfl rfl rfl rfl ?_
  refine wp_s (i := .iload_n 1) (n := 1) (pc' := 9) (st' := [dz_I (Z ((Z 1 1 0).toNat) 6 0)]) rfl rfl ?_
  refine wp_s (i := .bipush 8) (n := 2) (pc' := 11) (st' := [dz_I 8, dz_I (Z ((Z 1 1 0).toNat) 6 0)]) rfl rfl ?_
  refine wq_ic (p := dz_c (Z ((Z 1 1 0).toNat) 6 0) < 8) (tt := 20) (pc' := 14) rfl rfl (cq_lt rfl dk_8) rfl (fun c2 => ?_) (fun c2 => ?_)
  · replace H := dz_it c2 H
    refine wp_s (i := .aload_n 0) (n := 1) (pc' := 21) (st' := [.ref 1]) rfl rfl ?_
    refine wp_s (i := .iconst 0) (n := 1) (pc' := 22) (st' := [dz_I 0, .ref 1]) rfl rfl ?_
    refine wp_s (i := .bipush 7) (n := 2) (pc' := 24) (st' := [dz_I 7, dz_I 0, .ref 1]) rfl rfl ?_
    refine wq_cv (Dq := (D + 6)) (r' := mm_r36) (as0 := [dz_I 0, dz_I 7]) (rest := []) (ls' := [some (.ref 1), some (dz_I 0), some (dz_I 7)]) (pc' := 27) rfl rfl rfl rfl ho_R rfl rfl rfl ?_
    refine jw_R_needsNumber (X := X) (D := D + 4) 0 7 Z (dz_pm (dz_bi H) (fun q3 H => ?_))
    show mm_Wp X (D + 7) mm_r41 27 [some (.ref 1), some (dz_I (Z ((Z 1 1 0).toNat) 6 0))] [dz_B q3.1] (hz_0 q3.2) Q
    refine wq_if (p := q3.1 = true) (tt := 32) (pc' := 30) rfl rfl (cb_ne) rfl (fun c4 => ?_) (fun c4 => ?_)
    · replace H := dz_it c4 H
      refine wp_s (i := .aload_n 0) (n := 1) (pc' := 33) (st' := [.ref 1]) rfl rfl ?_
      obtain ⟨k5, H⟩ := dz_ck H
      refine wq_gd (idx := 21) (pc' := 36) rfl rfl ho_R rfl rfl ?_
      refine wq_gr (idx := 168) (a := (q3.2 1 1 0).toNat + 5) (pc' := 39) rfl rfl (ho_P k5) rfl rfl ?_
      refine wp_s (i := .iload_n 1) (n := 1) (pc' := 40) (st' := [dz_I (Z ((Z 1 1 0).toNat) 6 0), .ref ((q3.2 1 1 0).toNat + 5)]) rfl rfl ?_
      refine wp_s (i := .aload_n 0) (n := 1) (pc' := 41) (st' := [.ref 1, dz_I (Z ((Z 1 1 0).toNat) 6 0), .ref ((q3.2 1 1 0).toNat + 5)]) rfl rfl ?_
      refine wq_gi (idx := 87) (pc' := 44) rfl rfl ho_R rfl rfl ?_
      obtain ⟨k6, H⟩ := dz_ck H
      refine wq_is (j' := dz_c (Z ((Z 1 1 0).toNat) 6 0)) (x := q3.2 1 9 0) (pc' := 45) rfl (ha_P_7 k5) rfl k6.1 k6.2 rfl (fun Z7 eZ7 => ?_)
      replace H := dz_le H Z7 eZ7
      clear eZ7
      refine wp_s (i := .aload_n 0) (n := 1) (pc' := 46) (st' := [.ref 1]) rfl rfl ?_
      refine wp_s (i := .iload_n 1) (n := 1) (pc' := 47) (st' := [dz_I (Z ((Z 1 1 0).toNat) 6 0), .ref 1]) rfl rfl ?_
      refine wq_cv (Dq := (D + 6)) (r' := mm_r42) (as0 := [dz_I (Z ((Z 1 1 0).toNat) 6 0)]) (rest := []) (ls' := [some (.ref 1), some (dz_I (Z ((Z 1 1 0).toNat) 6 0)), none]) (pc' := 50) rfl rfl rfl rfl ho_R rfl rfl rfl ?_
      refine jw_R_readCup (X := X) (D := D + 0) (Z ((Z 1 1 0).toNat) 6 0) Z7 (dz_pm (dz_bi H) (fun q8 H => ?_))
      show mm_Wp X (D + 7) mm_r41 50 [some (.ref 1), some (dz_I (Z ((Z 1 1 0).toNat) 6 0))] [dz_B q8.1] (hz_0 q8.2) Q
      refine wq_if (p := q8.1 = true) (tt := 55) (pc' := 53) rfl rfl (cb_ne) rfl (fun c9 => ?_) (fun c9 => ?_)
      · replace H := dz_it c9 H
        refine wp_s (i := .aload_n 0) (n := 1) (pc' := 56) (st' := [.ref 1]) rfl rfl ?_
        obtain ⟨k10, H⟩ := dz_ck H
        refine wq_gd (idx := 21) (pc' := 59) rfl rfl ho_R rfl rfl ?_
        refine wp_s (i := .dup) (n := 1) (pc' := 60) (st' := [.ref ((q8.2 1 1 0).toNat), .ref ((q8.2 1 1 0).toNat)]) rfl rfl ?_
        refine wq_gi (idx := 165) (pc' := 63) rfl rfl (ho_P k10) rfl rfl ?_
        refine wp_s (i := .iconst 1) (n := 1) (pc' := 64) (st' := [dz_I 1, dz_I (q8.2 ((q8.2 1 1 0).toNat) 6 0), .ref ((q8.2 1 1 0).toNat)]) rfl rfl ?_
        refine wq_2 (i := .iadd) (z := (q8.2 ((q8.2 1 1 0).toNat) 6 0) + 1) (pc' := 65) rfl rfl (op_add _ _) rfl ?_
        refine wq_pi (idx := 165) (x := (q8.2 ((q8.2 1 1 0).toNat) 6 0) + 1) (pc' := 68) rfl rfl rfl (ho_P k10) rfl rfl rfl rfl (fun Z11 eZ11 => ?_)
        replace H := dz_le H Z11 eZ11
        clear eZ11
        refine wp_s (i := .aload_n 0) (n := 1) (pc' := 69) (st' := [.ref 1]) rfl rfl ?_
        refine wp_s (i := .iconst 4) (n := 1) (pc' := 70) (st' := [dz_I 4, .ref 1]) rfl rfl ?_
        refine wq_cv (Dq := (D + 6)) (r' := mm_r35) (as0 := [dz_I 4]) (rest := []) (ls' := [some (.ref 1), some (dz_I 4)]) (pc' := 73) rfl rfl rfl rfl ho_R rfl rfl rfl ?_
        refine jw_R_needs (X := X) (D := D + 4) 4 Z11 (dz_pm (dz_bi H) (fun q12 H => ?_))
        show mm_Wp X (D + 7) mm_r41 73 [some (.ref 1), some (dz_I (Z ((Z 1 1 0).toNat) 6 0))] [dz_B q12.1] (hz_0 q12.2) Q
        refine wq_rb rfl rfl ?_
        replace H := dz_sm H
        exact H
      · replace H := dz_if c9 H
        refine wp_s (i := .iconst 0) (n := 1) (pc' := 54) (st' := [dz_I 0]) rfl rfl ?_
        refine wq_rf rfl rfl ?_
        replace H := dz_sm H
        exact H
    · replace H := dz_if c4 H
      refine wp_s (i := .iconst 0) (n := 1) (pc' := 31) (st' := [dz_I 0]) rfl rfl ?_
      refine wq_rf rfl rfl ?_
      replace H := dz_sm H
      exact H
  · replace H := dz_if c2 H
    refine wp_s (i := .aload_n 0) (n := 1) (pc' := 15) (st' := [.ref 1]) rfl rfl ?_
    refine wp_s (i := .iconst 5) (n := 1) (pc' := 16) (st' := [dz_I 5, .ref 1]) rfl rfl ?_
    refine wq_cv (Dq := (D + 6)) (r' := mm_r30) (as0 := [dz_I 5]) (rest := []) (ls' := [some (.ref 1), some (dz_I 5)]) (pc' := 19) rfl rfl rfl rfl ho_R rfl rfl rfl ?_
    refine jw_R_fail (X := X) (D := D + 6) 5 Z (dz_pm (dz_bi H) (fun q13 H => ?_))
    show mm_Wp X (D + 7) mm_r41 19 [some (.ref 1), some (dz_I (Z ((Z 1 1 0).toNat) 6 0))] [dz_B q13.1] (hz_0 q13.2) Q
    refine wq_rb rfl rfl ?_
    replace H := dz_sm H
    exact H
-- 47
def jf_R_isSecond (a1 : Int) (a2 : Int) (Z : dz_Z) : Option (Bool × dz_Z) := if dz_c (Z 1 8 0) = 3 then (Option.bind (jf_R_numberRead Z) fun q2 => dz_a (dz_u Z 1 9 0 q2) fun Z3 => if dz_c (Z3 1 9 0) ≤ dz_c a2 then (if dz_c a1 < 12 then (some (true, Z3)) else (Option.bind (jf_R_fail 5 Z3) fun q6 => if q6.1 = false then (some (false, q6.2)) else (some (true, q6.2)))) else (Option.bind (jf_R_fail 3 Z3) fun q8 => some (q8.1, q8.2))) else (Option.bind (jf_R_fail 2 Z) fun q9 => some (q9.1, q9.2))
set_option maxRecDepth 20000 in
theorem jw_R_isSecond {X : Option (List Int32)} {D : Nat} {Q : Option Value → mm_H → Prop} (a1 : Int) (a2 : Int) (Z : dz_Z) (H : dz_p (jf_R_isSecond a1 a2 Z) (fun q => Q (some (dz_B q.1)) (hz_0 q.2))) : mm_Wp X (D + 1) mm_r47 0 [some (.ref 1), some (dz_I a1), some (dz_I a2)] [] (hz_0 Z) Q := by
  unfold jf_R_isSecond at H
  refine wp_s (i := .aload_n 0) (n := 1) (pc' := 1) (st' := [.ref 1]) rfl rfl ?_
  refine wq_gi (idx := 64) (pc' := 4) rfl rfl ho_R rfl rfl ?_
  refine wp_s (i := .iconst 3) (n := 1) (pc' := 5) (st' := [dz_I 3, dz_I (Z 1 8 0)]) rfl rfl ?_
  refine wq_ic (p := dz_c (Z 1 8 0) = 3) (tt := 14) (pc' := 8) rfl rfl (cq_eq rfl dk_3) rfl (fun c1 => ?_) (fun c1 => ?_)
  · replace H := dz_it c1 H
    refine wp_s (i := .aload_n 0) (n := 1) (pc' := 15) (st' := [.ref 1]) rfl rfl ?_
    refine wp_s (i := .aload_n 0) (n := 1) (pc' := 16) (st' := [.ref 1, .ref 1]) rfl rfl ?_
    refine wq_cv (Dq := D) (r' := mm_r33) (as0 := []) (rest := [.ref 1]) (ls' := [some (.ref 1), none, none]) (pc' := 19) rfl rfl rfl rfl ho_R rfl rfl rfl ?_
    refine jw_R_numberRead (X := X) (D := D + 0) Z (dz_pm (dz_bi H) (fun q2 H => ?_))
    show mm_Wp X (D + 1) mm_r47 19 [some (.ref 1), some (dz_I a1), some (dz_I a2)] [dz_I q2, .ref 1] (hz_0 Z) Q
    refine wq_pi (idx := 87) (x := q2) (pc' := 22) rfl rfl rfl ho_R rfl rfl rfl rfl (fun Z3 eZ3 => ?_)
    replace H := dz_le H Z3 eZ3
    clear eZ3
    refine wp_s (i := .aload_n 0) (n := 1) (pc' := 23) (st' := [.ref 1]) rfl rfl ?_
    refine wq_gi (idx := 87) (pc' := 26) rfl rfl ho_R rfl rfl ?_
    refine wp_s (i := .iload_n 2) (n := 1) (pc' := 27) (st' := [dz_I a2, dz_I (Z3 1 9 0)]) rfl rfl ?_
    refine wq_ic (p := dz_c (Z3 1 9 0) ≤ dz_c a2) (tt := 36) (pc' := 30) rfl rfl (cq_le rfl rfl) rfl (fun c4 => ?_) (fun c4 => ?_)
    · replace H := dz_it c4 H
      refine wp_s (i := .iload_n 1) (n := 1) (pc' := 37) (st' := [dz_I a1]) rfl rfl ?_
      refine wp_s (i := .bipush 12) (n := 2) (pc' := 39) (st' := [dz_I 12, dz_I a1]) rfl rfl ?_
      refine wq_ic (p := dz_c a1 < 12) (tt := 50) (pc' := 42) rfl rfl (cq_lt rfl dk_12) rfl (fun c5 => ?_) (fun c5 => ?_)
      · replace H := dz_it c5 H
        refine wp_s (i := .iconst 1) (n := 1) (pc' := 51) (st' := [dz_I 1]) rfl rfl ?_
        refine wp_s (i := .goto 4) (n := 3) (pc' := 55) (st' := [dz_I 1]) rfl rfl ?_
        refine wq_rt rfl rfl ?_
        replace H := dz_sm H
        exact H
      · replace H := dz_if c5 H
        refine wp_s (i := .aload_n 0) (n := 1) (pc' := 43) (st' := [.ref 1]) rfl rfl ?_
        refine wp_s (i := .iconst 5) (n := 1) (pc' := 44) (st' := [dz_I 5, .ref 1]) rfl rfl ?_
        refine wq_cv (Dq := D) (r' := mm_r30) (as0 := [dz_I 5]) (rest := []) (ls' := [some (.ref 1), some (dz_I 5)]) (pc' := 47) rfl rfl rfl rfl ho_R rfl rfl rfl ?_
        refine jw_R_fail (X := X) (D := D + 0) 5 Z3 (dz_pm (dz_bi H) (fun q6 H => ?_))
        show mm_Wp X (D + 1) mm_r47 47 [some (.ref 1), some (dz_I a1), some (dz_I a2)] [dz_B q6.1] (hz_0 q6.2) Q
        refine wq_if (p := q6.1 = false) (tt := 54) (pc' := 50) rfl rfl (cb_eq) rfl (fun c7 => ?_) (fun c7 => ?_)
        · replace H := dz_it c7 H
          refine wp_s (i := .iconst 0) (n := 1) (pc' := 55) (st' := [dz_I 0]) rfl rfl ?_
          refine wq_rf rfl rfl ?_
          replace H := dz_sm H
          exact H
        · replace H := dz_if c7 H
          refine wp_s (i := .iconst 1) (n := 1) (pc' := 51) (st' := [dz_I 1]) rfl rfl ?_
          refine wp_s (i := .goto 4) (n := 3) (pc' := 55) (st' := [dz_I 1]) rfl rfl ?_
          refine wq_rt rfl rfl ?_
          replace H := dz_sm H
          exact H
    · replace H := dz_if c4 H
      refine wp_s (i := .aload_n 0) (n := 1) (pc' := 31) (st' := [.ref 1]) rfl rfl ?_
      refine wp_s (i := .iconst 3) (n := 1) (pc' := 32) (st' := [dz_I 3, .ref 1]) rfl rfl ?_
      refine wq_cv (Dq := D) (r' := mm_r30) (as0 := [dz_I 3]) (rest := []) (ls' := [some (.ref 1), some (dz_I 3)]) (pc' := 35) rfl rfl rfl rfl ho_R rfl rfl rfl ?_
      refine jw_R_fail (X := X) (D := D + 0) 3 Z3 (dz_pm (dz_bi H) (fun q8 H => ?_))
      show mm_Wp X (D + 1) mm_r47 35 [some (.ref 1), some (dz_I a1), some (dz_I a2)] [dz_B q8.1] (hz_0 q8.2) Q
      refine wq_rb rfl rfl ?_
      replace H := dz_sm H
      exact H
  · replace H := dz_if c1 H
    refine wp_s (i := .aload_n 0) (n := 1) (pc' := 9) (st' := [.ref 1]) rfl rfl ?_
    refine wp_s (i := .iconst 2) (n := 1) (pc' := 10) (st' := [dz_I 2, .ref 1]) rfl rfl ?_
    refine wq_cv (Dq := D) (r' := mm_r30) (as0 := [dz_I 2]) (rest := []) (ls' := [some (.ref 1), some (dz_I 2)]) (pc' := 13) rfl rfl rfl rfl ho_R rfl rfl rfl ?_
    refine jw_R_fail (X := X) (D := D + 0) 2 Z (dz_pm (dz_bi H) (fun q9 H => ?_))
    show mm_Wp X (D + 1) mm_r47 13 [some (.ref 1), some (dz_I a1), some (dz_I a2)] [dz_B q9.1] (hz_0 q9.2) Q
    refine wq_rb rfl rfl ?_
    replace H := dz_sm H
    exact H
-- 46
def jf_R_readSeconds (a1b a1f a1n : Nat) (a2 : Int) (Z : dz_Z) : Option (Int × dz_Z) := Option.bind (jf_R_needsNumber 0 a2 Z) fun q1 => if q1.1 = true then (if 0 ≤ (0 : Int) ∧ (0 : Int) < (a1n : Int) then dz_a (dz_u q1.2 a1b a1f 0 (q1.2 1 9 0)) fun Z4 => dz_lp (fun (s5 : Int × dz_Z) => if 12 < dz_c s5.1 then (some (Sum.inr (0, s5.2))) else (Option.bind (jf_R_nextToken s5.2) fun q7 => if q7.1 = true then (if dz_c (q7.2 1 8 0) ≠ 4 then (Option.bind (jf_R_isSecond s5.1 a2 q7.2) fun q10 => if q10.1 = true then (if 0 ≤ (dz_c s5.1 : Int) ∧ (dz_c s5.1 : Int) < (a1n : Int) then dz_a (dz_u q10.2 a1b a1f (dz_c s5.1) (q10.2 1 9 0)) fun Z13 => some (Sum.inl (s5.1 + 1, Z13)) else none) else (some (Sum.inr (0, q10.2)))) else (some (Sum.inr (s5.1, q7.2)))) else (some (Sum.inr (0, q7.2))))) 5000 (1, Z4) else none) else (some (0, q1.2))
set_option maxRecDepth 20000 in
theorem jw_R_readSeconds {X : Option (List Int32)} {D : Nat} {Q : Option Value → mm_H → Prop} (a1c a1b a1f a1n : Nat) (ha1 : hz_t[a1c]? = some (.inl (0, a1b, a1f, a1n))) (a2 : Int) (Z : dz_Z) (H : dz_p (jf_R_readSeconds a1b a1f a1n a2 Z) (fun q => Q (some (dz_I q.1)) (hz_0 q.2))) : mm_Wp X (D + 3) mm_r46 0 [some (.ref 1), some (.ref a1c), some (dz_I a2), none] [] (hz_0 Z) Q := by
  unfold jf_R_readSeconds at H
  refine wp_s (i := .aload_n 0) (n := 1) (pc' := 1) (st' := [.ref 1]) rfl rfl ?_
  refine wp_s (i := .iconst 0) (n := 1) (pc' := 2) (st' := [dz_I 0, .ref 1]) rfl rfl ?_
  refine wp_s (i := .iload_n 2) (n := 1) (pc' := 3) (st' := [dz_I a2, dz_I 0, .ref 1]) rfl rfl ?_
  refine wq_cv (Dq := (D + 2)) (r' := mm_r36) (as0 := [dz_I 0, dz_I a2]) (rest := []) (ls' := [some (.ref 1), some (dz_I 0), some (dz_I a2)]) (pc' := 6) rfl rfl rfl rfl ho_R rfl rfl rfl ?_
  refine jw_R_needsNumber (X := X) (D := D + 0) 0 a2 Z (dz_pm (dz_bi H) (fun q1 H => ?_))
  show mm_Wp X (D + 3) mm_r46 6 [some (.ref 1), some (.ref a1c), some (dz_I a2), none] [dz_B q1.1] (hz_0 q1.2) Q
  refine wq_if (p := q1.1 = true) (tt := 11) (pc' := 9) rfl rfl (cb_ne) rfl (fun c2 => ?_) (fun c2 => ?_)
  · replace H := dz_it c2 H
    refine wp_s (i := .aload_n 1) (n := 1) (pc' := 12) (st' := [.ref a1c]) rfl rfl ?_
    refine wp_s (i := .iconst 0) (n := 1) (pc' := 13) (st' := [dz_I 0, .ref a1c]) rfl rfl ?_
    refine wp_s (i := .aload_n 0) (n := 1) (pc' := 14) (st' := [.ref 1, dz_I 0, .ref a1c]) rfl rfl ?_
    refine wq_gi (idx := 87) (pc' := 17) rfl rfl ho_R rfl rfl ?_
    obtain ⟨k3, H⟩ := dz_ck H
    refine wq_is (j' := 0) (x := q1.2 1 9 0) (pc' := 18) rfl ha1 dk_0 k3.1 k3.2 rfl (fun Z4 eZ4 => ?_)
    replace H := dz_le H Z4 eZ4
    clear eZ4
    refine wp_s (i := .iconst 1) (n := 1) (pc' := 19) (st' := [dz_I 1]) rfl rfl ?_
    refine wq_st (k := 3) (i := .istore_n 3) (n := 1) (ls' := [some (.ref 1), some (.ref a1c), some (dz_I a2), some (dz_I 1)]) (pc' := 20) rfl rfl rfl rfl rfl ?_
    refine dz_lpi (P := fun (s5 : Int × dz_Z) => mm_Wp X (D + 3) mm_r46 20 [some (.ref 1), some (.ref a1c), some (dz_I a2), some (dz_I s5.1)] [] (hz_0 s5.2) Q) (fun s5 H => ?_) 5000 (1, Z4) H
    refine wp_s (i := .iload_n 3) (n := 1) (pc' := 21) (st' := [dz_I s5.1]) rfl rfl ?_
    refine wp_s (i := .bipush 12) (n := 2) (pc' := 23) (st' := [dz_I 12, dz_I s5.1]) rfl rfl ?_
    refine wq_ic (p := 12 < dz_c s5.1) (tt := 69) (pc' := 26) rfl rfl (cq_gt rfl dk_12) rfl (fun c6 => ?_) (fun c6 => ?_)
    · replace H := dz_it c6 H
      refine wp_s (i := .iconst 0) (n := 1) (pc' := 70) (st' := [dz_I 0]) rfl rfl ?_
      refine wq_ri rfl rfl ?_
      replace H := dz_out H
      replace H := dz_sm H
      exact H
    · replace H := dz_if c6 H
      refine wp_s (i := .aload_n 0) (n := 1) (pc' := 27) (st' := [.ref 1]) rfl rfl ?_
      refine wq_cv (Dq := (D + 2)) (r' := mm_r31) (as0 := []) (rest := []) (ls' := [some (.ref 1), none]) (pc' := 30) rfl rfl rfl rfl ho_R rfl rfl rfl ?_
      refine jw_R_nextToken (X := X) (D := D + 1) s5.2 (dz_pm (dz_bi H) (fun q7 H => ?_))
      show mm_Wp X (D + 3) mm_r46 30 [some (.ref 1), some (.ref a1c), some (dz_I a2), some (dz_I s5.1)] [dz_B q7.1] (hz_0 q7.2) Q
      refine wq_if (p := q7.1 = true) (tt := 35) (pc' := 33) rfl rfl (cb_ne) rfl (fun c8 => ?_) (fun c8 => ?_)
      · replace H := dz_it c8 H
        refine wp_s (i := .aload_n 0) (n := 1) (pc' := 36) (st' := [.ref 1]) rfl rfl ?_
        refine wq_gi (idx := 64) (pc' := 39) rfl rfl ho_R rfl rfl ?_
        refine wp_s (i := .iconst 4) (n := 1) (pc' := 40) (st' := [dz_I 4, dz_I (q7.2 1 8 0)]) rfl rfl ?_
        refine wq_ic (p := dz_c (q7.2 1 8 0) ≠ 4) (tt := 45) (pc' := 43) rfl rfl (cq_ne rfl dk_4) rfl (fun c9 => ?_) (fun c9 => ?_)
        · replace H := dz_it c9 H
          refine wp_s (i := .aload_n 0) (n := 1) (pc' := 46) (st' := [.ref 1]) rfl rfl ?_
          refine wp_s (i := .iload_n 3) (n := 1) (pc' := 47) (st' := [dz_I s5.1, .ref 1]) rfl rfl ?_
          refine wp_s (i := .iload_n 2) (n := 1) (pc' := 48) (st' := [dz_I a2, dz_I s5.1, .ref 1]) rfl rfl ?_
          refine wq_cv (Dq := (D + 2)) (r' := mm_r47) (as0 := [dz_I s5.1, dz_I a2]) (rest := []) (ls' := [some (.ref 1), some (dz_I s5.1), some (dz_I a2)]) (pc' := 51) rfl rfl rfl rfl ho_R rfl rfl rfl ?_
          refine jw_R_isSecond (X := X) (D := D + 1) s5.1 a2 q7.2 (dz_pm (dz_bi H) (fun q10 H => ?_))
          show mm_Wp X (D + 3) mm_r46 51 [some (.ref 1), some (.ref a1c), some (dz_I a2), some (dz_I s5.1)] [dz_B q10.1] (hz_0 q10.2) Q
          refine wq_if (p := q10.1 = true) (tt := 56) (pc' := 54) rfl rfl (cb_ne) rfl (fun c11 => ?_) (fun c11 => ?_)
          · replace H := dz_it c11 H
            refine wp_s (i := .aload_n 1) (n := 1) (pc' := 57) (st' := [.ref a1c]) rfl rfl ?_
            refine wp_s (i := .iload_n 3) (n := 1) (pc' := 58) (st' := [dz_I s5.1, .ref a1c]) rfl rfl ?_
            refine wp_s (i := .aload_n 0) (n := 1) (pc' := 59) (st' := [.ref 1, dz_I s5.1, .ref a1c]) rfl rfl ?_
            refine wq_gi (idx := 87) (pc' := 62) rfl rfl ho_R rfl rfl ?_
            obtain ⟨k12, H⟩ := dz_ck H
            refine wq_is (j' := dz_c s5.1) (x := q10.2 1 9 0) (pc' := 63) rfl ha1 rfl k12.1 k12.2 rfl (fun Z13 eZ13 => ?_)
            replace H := dz_le H Z13 eZ13
            clear eZ13
            refine wq_inc (k := 3) (d := 1) (x := s5.1) (ls' := [some (.ref 1), some (.ref a1c), some (dz_I a2), some (dz_I (s5.1 + 1))]) (pc' := 66) rfl rfl rfl rfl ?_
            refine wp_s (i := .goto (-46)) (n := 3) (pc' := 20) (st' := []) rfl rfl ?_
            replace H := dz_back H
            exact H
          · replace H := dz_if c11 H
            refine wp_s (i := .iconst 0) (n := 1) (pc' := 55) (st' := [dz_I 0]) rfl rfl ?_
            refine wq_ri rfl rfl ?_
            replace H := dz_out H
            replace H := dz_sm H
            exact H
        · replace H := dz_if c9 H
          refine wp_s (i := .iload_n 3) (n := 1) (pc' := 44) (st' := [dz_I s5.1]) rfl rfl ?_
          refine wq_ri rfl rfl ?_
          replace H := dz_out H
          replace H := dz_sm H
          exact H
      · replace H := dz_if c8 H
        refine wp_s (i := .iconst 0) (n := 1) (pc' := 34) (st' := [dz_I 0]) rfl rfl ?_
        refine wq_ri rfl rfl ?_
        replace H := dz_out H
        replace H := dz_sm H
        exact H
  · replace H := dz_if c2 H
    refine wp_s (i := .iconst 0) (n := 1) (pc' := 10) (st' := [dz_I 0]) rfl rfl ?_
    refine wq_ri rfl rfl ?_
    replace H := dz_sm H
    exact H
-- 44
def jf_R_readRain (Z : dz_Z) : Option (Bool × dz_Z) := if hz_isP (Z 1 1 0).toNat then if dz_c (Z ((Z 1 1 0).toNat) 10 0) < 3 then (if hz_isS (Z 1 2 0).toNat then if 0 ≤ dz_c (Z ((Z 1 1 0).toNat) 10 0) ∧ dz_c (Z ((Z 1 1 0).toNat) 10 0) < 3 then Option.bind (jf_R_readSeconds ((Z 1 2 0).toNat) (20 + Int.toNat (dz_c (Z ((Z 1 1 0).toNat) 10 0))) 12 9 Z) fun q5 => if hz_isS (q5.2 1 2 0).toNat then dz_a (dz_u q5.2 ((q5.2 1 2 0).toNat) 3 (dz_c (Z ((Z 1 1 0).toNat) 10 0)) q5.1) fun Z7 => if hz_isP (Z7 1 1 0).toNat then dz_a (dz_u Z7 ((Z7 1 1 0).toNat) 10 0 ((Z7 ((Z7 1 1 0).toNat) 10 0) + 1)) fun Z9 => if dz_c q5.1 ≤ 0 then (some (false, Z9)) else (some (true, Z9)) else none else none else none else none) else (Option.bind (jf_R_fail 5 Z) fun q11 => some (q11.1, q11.2)) else none
set_option maxRecDepth 20000 in
theorem jw_R_readRain {X : Option (List Int32)} {D : Nat} {Q : Option Value → mm_H → Prop} (Z : dz_Z) (H : dz_p (jf_R_readRain Z) (fun q => Q (some (dz_B q.1)) (hz_0 q.2))) : mm_Wp X (D + 4) mm_r44 0 [some (.ref 1), none, none] [] (hz_0 Z) Q := by
  unfold jf_R_readRain at H
  refine wp_s (i := .aload_n 0) (n := 1) (pc' := 1) (st' := [.ref 1]) rfl rfl ?_
  obtain ⟨k1, H⟩ := dz_ck H
  refine wq_gd (idx := 21) (pc' := 4) rfl rfl ho_R rfl rfl ?_
  refine wq_gi (idx := 201) (pc' := 7) rfl rfl (ho_P k1) rfl rfl ?_
  refine wq_st (k := 1) (i := .istore_n 1) (n := 1) (ls' := [some (.ref 1), some (dz_I (Z ((Z 1 1 0).toNat) 10 0)), none]) (pc' := 8) rfl rfl rfl rfl rfl ?_
  refine wp_s (i := .iload_n 1) (n := 1) (pc' := 9) (st' := [dz_I (Z ((Z 1 1 0).toNat) 10 0)]) rfl rfl ?_
  refine wp_s (i := .iconst 3) (n := 1) (pc' := 10) (st' := [dz_I 3, dz_I (Z ((Z 1 1 0).toNat) 10 0)]) rfl rfl ?_
  refine wq_ic (p := dz_c (Z ((Z 1 1 0).toNat) 10 0) < 3) (tt := 19) (pc' := 13) rfl rfl (cq_lt rfl dk_3) rfl (fun c2 => ?_) (fun c2 => ?_)
  · replace H := dz_it c2 H
    refine wp_s (i := .aload_n 0) (n := 1) (pc' := 20) (st' := [.ref 1]) rfl rfl ?_
    refine wp_s (i := .aload_n 0) (n := 1) (pc' := 21) (st' := [.ref 1, .ref 1]) rfl rfl ?_
    obtain ⟨k3, H⟩ := dz_ck H
    refine wq_gd (idx := 28) (pc' := 24) rfl rfl ho_R rfl rfl ?_
    refine wq_gr (idx := 204) (a := (Z 1 2 0).toNat + 5) (pc' := 27) rfl rfl (ho_S k3) rfl rfl ?_
    refine wp_s (i := .iload_n 1) (n := 1) (pc' := 28) (st' := [dz_I (Z ((Z 1 1 0).toNat) 10 0), .ref ((Z 1 2 0).toNat + 5), .ref 1]) rfl rfl ?_
    obtain ⟨k4, H⟩ := dz_ck H
    refine wq_aa (j' := dz_c (Z ((Z 1 1 0).toNat) 10 0)) (a := (Z 1 2 0).toNat + 6 + Int.toNat (dz_c (Z ((Z 1 1 0).toNat) 10 0))) (pc' := 29) rfl (by decide) (ha_S_4 k3) rfl k4.1 k4.2 (hr_S k4.1 k4.2) rfl ?_
    refine wp_s (i := .bipush 9) (n := 2) (pc' := 31) (st' := [dz_I 9, .ref ((Z 1 2 0).toNat + 6 + Int.toNat (dz_c (Z ((Z 1 1 0).toNat) 10 0))), .ref 1]) rfl rfl ?_
    refine wq_cv (Dq := (D + 3)) (r' := mm_r46) (as0 := [.ref ((Z 1 2 0).toNat + 6 + Int.toNat (dz_c (Z ((Z 1 1 0).toNat) 10 0))), dz_I 9]) (rest := []) (ls' := [some (.ref 1), some (.ref ((Z 1 2 0).toNat + 6 + Int.toNat (dz_c (Z ((Z 1 1 0).toNat) 10 0)))), some (dz_I 9), none]) (pc' := 34) rfl rfl rfl rfl ho_R rfl rfl rfl ?_
    refine jw_R_readSeconds (X := X) (D := D + 0) ((Z 1 2 0).toNat + 6 + Int.toNat (dz_c (Z ((Z 1 1 0).toNat) 10 0))) ((Z 1 2 0).toNat) (20 + Int.toNat (dz_c (Z ((Z 1 1 0).toNat) 10 0))) 12 (ha_Sr k3 k4.1 k4.2) 9 Z (dz_pm (dz_bi H) (fun q5 H => ?_))
    show mm_Wp X (D + 4) mm_r44 34 [some (.ref 1), some (dz_I (Z ((Z 1 1 0).toNat) 10 0)), none] [dz_I q5.1] (hz_0 q5.2) Q
    refine wq_st (k := 2) (i := .istore_n 2) (n := 1) (ls' := [some (.ref 1), some (dz_I (Z ((Z 1 1 0).toNat) 10 0)), some (dz_I q5.1)]) (pc' := 35) rfl rfl rfl rfl rfl ?_
    refine wp_s (i := .aload_n 0) (n := 1) (pc' := 36) (st' := [.ref 1]) rfl rfl ?_
    obtain ⟨k6, H⟩ := dz_ck H
    refine wq_gd (idx := 28) (pc' := 39) rfl rfl ho_R rfl rfl ?_
    refine wq_gr (idx := 212) (a := (q5.2 1 2 0).toNat + 4) (pc' := 42) rfl rfl (ho_S k6) rfl rfl ?_
    refine wp_s (i := .iload_n 1) (n := 1) (pc' := 43) (st' := [dz_I (Z ((Z 1 1 0).toNat) 10 0), .ref ((q5.2 1 2 0).toNat + 4)]) rfl rfl ?_
    refine wp_s (i := .iload_n 2) (n := 1) (pc' := 44) (st' := [dz_I q5.1, dz_I (Z ((Z 1 1 0).toNat) 10 0), .ref ((q5.2 1 2 0).toNat + 4)]) rfl rfl ?_
    refine wq_is (j' := dz_c (Z ((Z 1 1 0).toNat) 10 0)) (x := q5.1) (pc' := 45) rfl (ha_S_3 k6) rfl k4.1 k4.2 rfl (fun Z7 eZ7 => ?_)
    replace H := dz_le H Z7 eZ7
    clear eZ7
    refine wp_s (i := .aload_n 0) (n := 1) (pc' := 46) (st' := [.ref 1]) rfl rfl ?_
    obtain ⟨k8, H⟩ := dz_ck H
    refine wq_gd (idx := 21) (pc' := 49) rfl rfl ho_R rfl rfl ?_
    refine wp_s (i := .dup) (n := 1) (pc' := 50) (st' := [.ref ((Z7 1 1 0).toNat), .ref ((Z7 1 1 0).toNat)]) rfl rfl ?_
    refine wq_gi (idx := 201) (pc' := 53) rfl rfl (ho_P k8) rfl rfl ?_
    refine wp_s (i := .iconst 1) (n := 1) (pc' := 54) (st' := [dz_I 1, dz_I (Z7 ((Z7 1 1 0).toNat) 10 0), .ref ((Z7 1 1 0).toNat)]) rfl rfl ?_
    refine wq_2 (i := .iadd) (z := (Z7 ((Z7 1 1 0).toNat) 10 0) + 1) (pc' := 55) rfl rfl (op_add _ _) rfl ?_
    refine wq_pi (idx := 201) (x := (Z7 ((Z7 1 1 0).toNat) 10 0) + 1) (pc' := 58) rfl rfl rfl (ho_P k8) rfl rfl rfl rfl (fun Z9 eZ9 => ?_)
    replace H := dz_le H Z9 eZ9
    clear eZ9
    refine wp_s (i := .iload_n 2) (n := 1) (pc' := 59) (st' := [dz_I q5.1]) rfl rfl ?_
    refine wq_if (p := dz_c q5.1 ≤ 0) (tt := 66) (pc' := 62) rfl rfl (cz_le rfl) rfl (fun c10 => ?_) (fun c10 => ?_)
    · replace H := dz_it c10 H
      refine wp_s (i := .iconst 0) (n := 1) (pc' := 67) (st' := [dz_I 0]) rfl rfl ?_
      refine wq_rf rfl rfl ?_
      replace H := dz_sm H
      exact H
    · replace H := dz_if c10 H
      refine wp_s (i := .iconst 1) (n := 1) (pc' := 63) (st' := [dz_I 1]) rfl rfl ?_
      refine wp_s (i := .goto 4) (n := 3) (pc' := 67) (st' := [dz_I 1]) rfl rfl ?_
      refine wq_rt rfl rfl ?_
      replace H := dz_sm H
      exact H
  · replace H := dz_if c2 H
    refine wp_s (i := .aload_n 0) (n := 1) (pc' := 14) (st' := [.ref 1]) rfl rfl ?_
    refine wp_s (i := .iconst 5) (n := 1) (pc' := 15) (st' := [dz_I 5, .ref 1]) rfl rfl ?_
    refine wq_cv (Dq := (D + 3)) (r' := mm_r30) (as0 := [dz_I 5]) (rest := []) (ls' := [some (.ref 1), some (dz_I 5)]) (pc' := 18) rfl rfl rfl rfl ho_R rfl rfl rfl ?_
    refine jw_R_fail (X := X) (D := D + 3) 5 Z (dz_pm (dz_bi H) (fun q11 H => ?_))
    show mm_Wp X (D + 4) mm_r44 18 [some (.ref 1), some (dz_I (Z ((Z 1 1 0).toNat) 10 0)), none] [dz_B q11.1] (hz_0 q11.2) Q
    refine wq_rb rfl rfl ?_
    replace H := dz_sm H
    exact H
-- 45
def jf_R_readTune (Z : dz_Z) : Option (Bool × dz_Z) := if hz_isS (Z 1 2 0).toNat then if dz_c (Z ((Z 1 2 0).toNat) 6 0) ≤ 0 then (Option.bind (jf_R_readSeconds ((Z 1 2 0).toNat) 5 12 255 Z) fun q3 => dz_a (dz_u q3.2 ((Z 1 2 0).toNat) 6 0 q3.1) fun Z4 => if hz_isS (Z4 1 2 0).toNat then if dz_c (Z4 ((Z4 1 2 0).toNat) 6 0) ≤ 0 then (some (false, Z4)) else (some (true, Z4)) else none) else (Option.bind (jf_R_fail 4 Z) fun q7 => some (q7.1, q7.2)) else none
set_option maxRecDepth 20000 in
theorem jw_R_readTune {X : Option (List Int32)} {D : Nat} {Q : Option Value → mm_H → Prop} (Z : dz_Z) (H : dz_p (jf_R_readTune Z) (fun q => Q (some (dz_B q.1)) (hz_0 q.2))) : mm_Wp X (D + 4) mm_r45 0 [some (.ref 1)] [] (hz_0 Z) Q := by
  unfold jf_R_readTune at H
  refine wp_s (i := .aload_n 0) (n := 1) (pc' := 1) (st' := [.ref 1]) rfl rfl ?_
  obtain ⟨k1, H⟩ := dz_ck H
  refine wq_gd (idx := 28) (pc' := 4) rfl rfl ho_R rfl rfl ?_
  refine wq_gi (idx := 215) (pc' := 7) rfl rfl (ho_S k1) rfl rfl ?_
  refine wq_if (p := dz_c (Z ((Z 1 2 0).toNat) 6 0) ≤ 0) (tt := 16) (pc' := 10) rfl rfl (cz_le rfl) rfl (fun c2 => ?_) (fun c2 => ?_)
  · replace H := dz_it c2 H
    refine wp_s (i := .aload_n 0) (n := 1) (pc' := 17) (st' := [.ref 1]) rfl rfl ?_
    refine wq_gd (idx := 28) (pc' := 20) rfl rfl ho_R rfl rfl ?_
    refine wp_s (i := .aload_n 0) (n := 1) (pc' := 21) (st' := [.ref 1, .ref ((Z 1 2 0).toNat)]) rfl rfl ?_
    refine wp_s (i := .aload_n 0) (n := 1) (pc' := 22) (st' := [.ref 1, .ref 1, .ref ((Z 1 2 0).toNat)]) rfl rfl ?_
    refine wq_gd (idx := 28) (pc' := 25) rfl rfl ho_R rfl rfl ?_
    refine wq_gr (idx := 218) (a := (Z 1 2 0).toNat + 9) (pc' := 28) rfl rfl (ho_S k1) rfl rfl ?_
    refine wp_s (i := .sipush 255) (n := 3) (pc' := 31) (st' := [dz_I 255, .ref ((Z 1 2 0).toNat + 9), .ref 1, .ref ((Z 1 2 0).toNat)]) rfl rfl ?_
    refine wq_cv (Dq := (D + 3)) (r' := mm_r46) (as0 := [.ref ((Z 1 2 0).toNat + 9), dz_I 255]) (rest := [.ref ((Z 1 2 0).toNat)]) (ls' := [some (.ref 1), some (.ref ((Z 1 2 0).toNat + 9)), some (dz_I 255), none]) (pc' := 34) rfl rfl rfl rfl ho_R rfl rfl rfl ?_
    refine jw_R_readSeconds (X := X) (D := D + 0) ((Z 1 2 0).toNat + 9) ((Z 1 2 0).toNat) 5 12 (ha_S_5 k1) 255 Z (dz_pm (dz_bi H) (fun q3 H => ?_))
    show mm_Wp X (D + 4) mm_r45 34 [some (.ref 1)] [dz_I q3.1, .ref ((Z 1 2 0).toNat)] (hz_0 q3.2) Q
    refine wq_pi (idx := 215) (x := q3.1) (pc' := 37) rfl rfl rfl (ho_S k1) rfl rfl rfl rfl (fun Z4 eZ4 => ?_)
    replace H := dz_le H Z4 eZ4
    clear eZ4
    refine wp_s (i := .aload_n 0) (n := 1) (pc' := 38) (st' := [.ref 1]) rfl rfl ?_
    obtain ⟨k5, H⟩ := dz_ck H
    refine wq_gd (idx := 28) (pc' := 41) rfl rfl ho_R rfl rfl ?_
    refine wq_gi (idx := 215) (pc' := 44) rfl rfl (ho_S k5) rfl rfl ?_
    refine wq_if (p := dz_c (Z4 ((Z4 1 2 0).toNat) 6 0) ≤ 0) (tt := 51) (pc' := 47) rfl rfl (cz_le rfl) rfl (fun c6 => ?_) (fun c6 => ?_)
    · replace H := dz_it c6 H
      refine wp_s (i := .iconst 0) (n := 1) (pc' := 52) (st' := [dz_I 0]) rfl rfl ?_
      refine wq_rf rfl rfl ?_
      replace H := dz_sm H
      exact H
    · replace H := dz_if c6 H
      refine wp_s (i := .iconst 1) (n := 1) (pc' := 48) (st' := [dz_I 1]) rfl rfl ?_
      refine wp_s (i := .goto 4) (n := 3) (pc' := 52) (st' := [dz_I 1]) rfl rfl ?_
      refine wq_rt rfl rfl ?_
      replace H := dz_sm H
      exact H
  · replace H := dz_if c2 H
    refine wp_s (i := .aload_n 0) (n := 1) (pc' := 11) (st' := [.ref 1]) rfl rfl ?_
    refine wp_s (i := .iconst 4) (n := 1) (pc' := 12) (st' := [dz_I 4, .ref 1]) rfl rfl ?_
    refine wq_cv (Dq := (D + 3)) (r' := mm_r30) (as0 := [dz_I 4]) (rest := []) (ls' := [some (.ref 1), some (dz_I 4)]) (pc' := 15) rfl rfl rfl rfl ho_R rfl rfl rfl ?_
    refine jw_R_fail (X := X) (D := D + 3) 4 Z (dz_pm (dz_bi H) (fun q7 H => ?_))
    show mm_Wp X (D + 4) mm_r45 15 [some (.ref 1)] [dz_B q7.1] (hz_0 q7.2) Q
    refine wq_rb rfl rfl ?_
    replace H := dz_sm H
    exact H
-- 48
def jf_R_readSleep (Z : dz_Z) : Option (Bool × dz_Z) := if hz_isP (Z 1 1 0).toNat then if dz_c (Z ((Z 1 1 0).toNat) 11 0) < 4 then (Option.bind (jf_R_needsNumber 0 11 Z) fun q3 => if q3.1 = true then (if hz_isP (q3.2 1 1 0).toNat then if 0 ≤ dz_c (Z ((Z 1 1 0).toNat) 11 0) ∧ dz_c (Z ((Z 1 1 0).toNat) 11 0) < 4 then dz_a (dz_u q3.2 ((q3.2 1 1 0).toNat) 12 (dz_c (Z ((Z 1 1 0).toNat) 11 0)) (q3.2 1 9 0)) fun Z7 => Option.bind (jf_R_needsNumber (Z7 1 9 0) 11 Z7) fun q8 => if q8.1 = true then (if hz_isP (q8.2 1 1 0).toNat then dz_a (dz_u q8.2 ((q8.2 1 1 0).toNat) 13 (dz_c (Z ((Z 1 1 0).toNat) 11 0)) (q8.2 1 9 0)) fun Z11 => Option.bind (jf_R_needsNumber 1 99 Z11) fun q12 => if q12.1 = true then (if hz_isP (q12.2 1 1 0).toNat then dz_a (dz_u q12.2 ((q12.2 1 1 0).toNat) 14 (dz_c (Z ((Z 1 1 0).toNat) 11 0)) (q12.2 1 9 0)) fun Z15 => if hz_isP (Z15 1 1 0).toNat then dz_a (dz_u Z15 ((Z15 1 1 0).toNat) 11 0 ((Z15 ((Z15 1 1 0).toNat) 11 0) + 1)) fun Z17 => Option.bind (jf_R_needs 4 Z17) fun q18 => some (q18.1, q18.2) else none else none) else (some (false, q12.2)) else none) else (some (false, q8.2)) else none else none) else (some (false, q3.2))) else (Option.bind (jf_R_fail 5 Z) fun q19 => some (q19.1, q19.2)) else none
set_option maxRecDepth 20000 in
theorem jw_R_readSleep {X : Option (List Int32)} {D : Nat} {Q : Option Value → mm_H → Prop} (Z : dz_Z) (H : dz_p (jf_R_readSleep Z) (fun q => Q (some (dz_B q.1)) (hz_0 q.2))) : mm_Wp X (D + 3) mm_r48 0 [some (.ref 1), none] [] (hz_0 Z) Q := by
  unfold jf_R_readSleep at H
  refine wp_s (i := .aload_n 0) (n := 1) (pc' := 1) (st' := [.ref 1]) rfl rfl ?_
  obtain ⟨k1, H⟩ := dz_ck H
  refine wq_gd (idx := 21) (pc' := 4) rfl rfl ho_R rfl rfl ?_
  refine wq_gi (idx := 223) (pc' := 7) rfl rfl (ho_P k1) rfl rfl ?_
  refine wq_st (k := 1) (i := .istore_n 1) (n := 1) (ls' := [some (.ref 1), some (dz_I (Z ((Z 1 1 0).toNat) 11 0))]) (pc' := 8) rfl rfl rfl rfl rfl ?_
  refine wp_s (i := .iload_n 1) (n := 1) (pc' := 9) (st' := [dz_I (Z ((Z 1 1 0).toNat) 11 0)]) rfl rfl ?_
  refine wp_s (i := .iconst 4) (n := 1) (pc' := 10) (st' := [dz_I 4, dz_I (Z ((Z 1 1 0).toNat) 11 0)]) rfl rfl ?_
  refine wq_ic (p := dz_c (Z ((Z 1 1 0).toNat) 11 0) < 4) (tt := 19) (pc' := 13) rfl rfl (cq_lt rfl dk_4) rfl (fun c2 => ?_) (fun c2 => ?_)
  · replace H := dz_it c2 H
    refine wp_s (i := .aload_n 0) (n := 1) (pc' := 20) (st' := [.ref 1]) rfl rfl ?_
    refine wp_s (i := .iconst 0) (n := 1) (pc' := 21) (st' := [dz_I 0, .ref 1]) rfl rfl ?_
    refine wp_s (i := .bipush 11) (n := 2) (pc' := 23) (st' := [dz_I 11, dz_I 0, .ref 1]) rfl rfl ?_
    refine wq_cv (Dq := (D + 2)) (r' := mm_r36) (as0 := [dz_I 0, dz_I 11]) (rest := []) (ls' := [some (.ref 1), some (dz_I 0), some (dz_I 11)]) (pc' := 26) rfl rfl rfl rfl ho_R rfl rfl rfl ?_
    refine jw_R_needsNumber (X := X) (D := D + 0) 0 11 Z (dz_pm (dz_bi H) (fun q3 H => ?_))
    show mm_Wp X (D + 3) mm_r48 26 [some (.ref 1), some (dz_I (Z ((Z 1 1 0).toNat) 11 0))] [dz_B q3.1] (hz_0 q3.2) Q
    refine wq_if (p := q3.1 = true) (tt := 31) (pc' := 29) rfl rfl (cb_ne) rfl (fun c4 => ?_) (fun c4 => ?_)
    · replace H := dz_it c4 H
      refine wp_s (i := .aload_n 0) (n := 1) (pc' := 32) (st' := [.ref 1]) rfl rfl ?_
      obtain ⟨k5, H⟩ := dz_ck H
      refine wq_gd (idx := 21) (pc' := 35) rfl rfl ho_R rfl rfl ?_
      refine wq_gr (idx := 226) (a := (q3.2 1 1 0).toNat + 8) (pc' := 38) rfl rfl (ho_P k5) rfl rfl ?_
      refine wp_s (i := .iload_n 1) (n := 1) (pc' := 39) (st' := [dz_I (Z ((Z 1 1 0).toNat) 11 0), .ref ((q3.2 1 1 0).toNat + 8)]) rfl rfl ?_
      refine wp_s (i := .aload_n 0) (n := 1) (pc' := 40) (st' := [.ref 1, dz_I (Z ((Z 1 1 0).toNat) 11 0), .ref ((q3.2 1 1 0).toNat + 8)]) rfl rfl ?_
      refine wq_gi (idx := 87) (pc' := 43) rfl rfl ho_R rfl rfl ?_
      obtain ⟨k6, H⟩ := dz_ck H
      refine wq_is (j' := dz_c (Z ((Z 1 1 0).toNat) 11 0)) (x := q3.2 1 9 0) (pc' := 44) rfl (ha_P_12 k5) rfl k6.1 k6.2 rfl (fun Z7 eZ7 => ?_)
      replace H := dz_le H Z7 eZ7
      clear eZ7
      refine wp_s (i := .aload_n 0) (n := 1) (pc' := 45) (st' := [.ref 1]) rfl rfl ?_
      refine wp_s (i := .aload_n 0) (n := 1) (pc' := 46) (st' := [.ref 1, .ref 1]) rfl rfl ?_
      refine wq_gi (idx := 87) (pc' := 49) rfl rfl ho_R rfl rfl ?_
      refine wp_s (i := .bipush 11) (n := 2) (pc' := 51) (st' := [dz_I 11, dz_I (Z7 1 9 0), .ref 1]) rfl rfl ?_
      refine wq_cv (Dq := (D + 2)) (r' := mm_r36) (as0 := [dz_I (Z7 1 9 0), dz_I 11]) (rest := []) (ls' := [some (.ref 1), some (dz_I (Z7 1 9 0)), some (dz_I 11)]) (pc' := 54) rfl rfl rfl rfl ho_R rfl rfl rfl ?_
      refine jw_R_needsNumber (X := X) (D := D + 0) (Z7 1 9 0) 11 Z7 (dz_pm (dz_bi H) (fun q8 H => ?_))
      show mm_Wp X (D + 3) mm_r48 54 [some (.ref 1), some (dz_I (Z ((Z 1 1 0).toNat) 11 0))] [dz_B q8.1] (hz_0 q8.2) Q
      refine wq_if (p := q8.1 = true) (tt := 59) (pc' := 57) rfl rfl (cb_ne) rfl (fun c9 => ?_) (fun c9 => ?_)
      · replace H := dz_it c9 H
        refine wp_s (i := .aload_n 0) (n := 1) (pc' := 60) (st' := [.ref 1]) rfl rfl ?_
        obtain ⟨k10, H⟩ := dz_ck H
        refine wq_gd (idx := 21) (pc' := 63) rfl rfl ho_R rfl rfl ?_
        refine wq_gr (idx := 229) (a := (q8.2 1 1 0).toNat + 9) (pc' := 66) rfl rfl (ho_P k10) rfl rfl ?_
        refine wp_s (i := .iload_n 1) (n := 1) (pc' := 67) (st' := [dz_I (Z ((Z 1 1 0).toNat) 11 0), .ref ((q8.2 1 1 0).toNat + 9)]) rfl rfl ?_
        refine wp_s (i := .aload_n 0) (n := 1) (pc' := 68) (st' := [.ref 1, dz_I (Z ((Z 1 1 0).toNat) 11 0), .ref ((q8.2 1 1 0).toNat + 9)]) rfl rfl ?_
        refine wq_gi (idx := 87) (pc' := 71) rfl rfl ho_R rfl rfl ?_
        refine wq_is (j' := dz_c (Z ((Z 1 1 0).toNat) 11 0)) (x := q8.2 1 9 0) (pc' := 72) rfl (ha_P_13 k10) rfl k6.1 k6.2 rfl (fun Z11 eZ11 => ?_)
        replace H := dz_le H Z11 eZ11
        clear eZ11
        refine wp_s (i := .aload_n 0) (n := 1) (pc' := 73) (st' := [.ref 1]) rfl rfl ?_
        refine wp_s (i := .iconst 1) (n := 1) (pc' := 74) (st' := [dz_I 1, .ref 1]) rfl rfl ?_
        refine wp_s (i := .bipush 99) (n := 2) (pc' := 76) (st' := [dz_I 99, dz_I 1, .ref 1]) rfl rfl ?_
        refine wq_cv (Dq := (D + 2)) (r' := mm_r36) (as0 := [dz_I 1, dz_I 99]) (rest := []) (ls' := [some (.ref 1), some (dz_I 1), some (dz_I 99)]) (pc' := 79) rfl rfl rfl rfl ho_R rfl rfl rfl ?_
        refine jw_R_needsNumber (X := X) (D := D + 0) 1 99 Z11 (dz_pm (dz_bi H) (fun q12 H => ?_))
        show mm_Wp X (D + 3) mm_r48 79 [some (.ref 1), some (dz_I (Z ((Z 1 1 0).toNat) 11 0))] [dz_B q12.1] (hz_0 q12.2) Q
        refine wq_if (p := q12.1 = true) (tt := 84) (pc' := 82) rfl rfl (cb_ne) rfl (fun c13 => ?_) (fun c13 => ?_)
        · replace H := dz_it c13 H
          refine wp_s (i := .aload_n 0) (n := 1) (pc' := 85) (st' := [.ref 1]) rfl rfl ?_
          obtain ⟨k14, H⟩ := dz_ck H
          refine wq_gd (idx := 21) (pc' := 88) rfl rfl ho_R rfl rfl ?_
          refine wq_gr (idx := 232) (a := (q12.2 1 1 0).toNat + 10) (pc' := 91) rfl rfl (ho_P k14) rfl rfl ?_
          refine wp_s (i := .iload_n 1) (n := 1) (pc' := 92) (st' := [dz_I (Z ((Z 1 1 0).toNat) 11 0), .ref ((q12.2 1 1 0).toNat + 10)]) rfl rfl ?_
          refine wp_s (i := .aload_n 0) (n := 1) (pc' := 93) (st' := [.ref 1, dz_I (Z ((Z 1 1 0).toNat) 11 0), .ref ((q12.2 1 1 0).toNat + 10)]) rfl rfl ?_
          refine wq_gi (idx := 87) (pc' := 96) rfl rfl ho_R rfl rfl ?_
          refine wq_is (j' := dz_c (Z ((Z 1 1 0).toNat) 11 0)) (x := q12.2 1 9 0) (pc' := 97) rfl (ha_P_14 k14) rfl k6.1 k6.2 rfl (fun Z15 eZ15 => ?_)
          replace H := dz_le H Z15 eZ15
          clear eZ15
          refine wp_s (i := .aload_n 0) (n := 1) (pc' := 98) (st' := [.ref 1]) rfl rfl ?_
          obtain ⟨k16, H⟩ := dz_ck H
          refine wq_gd (idx := 21) (pc' := 101) rfl rfl ho_R rfl rfl ?_
          refine wp_s (i := .dup) (n := 1) (pc' := 102) (st' := [.ref ((Z15 1 1 0).toNat), .ref ((Z15 1 1 0).toNat)]) rfl rfl ?_
          refine wq_gi (idx := 223) (pc' := 105) rfl rfl (ho_P k16) rfl rfl ?_
          refine wp_s (i := .iconst 1) (n := 1) (pc' := 106) (st' := [dz_I 1, dz_I (Z15 ((Z15 1 1 0).toNat) 11 0), .ref ((Z15 1 1 0).toNat)]) rfl rfl ?_
          refine wq_2 (i := .iadd) (z := (Z15 ((Z15 1 1 0).toNat) 11 0) + 1) (pc' := 107) rfl rfl (op_add _ _) rfl ?_
          refine wq_pi (idx := 223) (x := (Z15 ((Z15 1 1 0).toNat) 11 0) + 1) (pc' := 110) rfl rfl rfl (ho_P k16) rfl rfl rfl rfl (fun Z17 eZ17 => ?_)
          replace H := dz_le H Z17 eZ17
          clear eZ17
          refine wp_s (i := .aload_n 0) (n := 1) (pc' := 111) (st' := [.ref 1]) rfl rfl ?_
          refine wp_s (i := .iconst 4) (n := 1) (pc' := 112) (st' := [dz_I 4, .ref 1]) rfl rfl ?_
          refine wq_cv (Dq := (D + 2)) (r' := mm_r35) (as0 := [dz_I 4]) (rest := []) (ls' := [some (.ref 1), some (dz_I 4)]) (pc' := 115) rfl rfl rfl rfl ho_R rfl rfl rfl ?_
          refine jw_R_needs (X := X) (D := D + 0) 4 Z17 (dz_pm (dz_bi H) (fun q18 H => ?_))
          show mm_Wp X (D + 3) mm_r48 115 [some (.ref 1), some (dz_I (Z ((Z 1 1 0).toNat) 11 0))] [dz_B q18.1] (hz_0 q18.2) Q
          refine wq_rb rfl rfl ?_
          replace H := dz_sm H
          exact H
        · replace H := dz_if c13 H
          refine wp_s (i := .iconst 0) (n := 1) (pc' := 83) (st' := [dz_I 0]) rfl rfl ?_
          refine wq_rf rfl rfl ?_
          replace H := dz_sm H
          exact H
      · replace H := dz_if c9 H
        refine wp_s (i := .iconst 0) (n := 1) (pc' := 58) (st' := [dz_I 0]) rfl rfl ?_
        refine wq_rf rfl rfl ?_
        replace H := dz_sm H
        exact H
    · replace H := dz_if c4 H
      refine wp_s (i := .iconst 0) (n := 1) (pc' := 30) (st' := [dz_I 0]) rfl rfl ?_
      refine wq_rf rfl rfl ?_
      replace H := dz_sm H
      exact H
  · replace H := dz_if c2 H
    refine wp_s (i := .aload_n 0) (n := 1) (pc' := 14) (st' := [.ref 1]) rfl rfl ?_
    refine wp_s (i := .iconst 5) (n := 1) (pc' := 15) (st' := [dz_I 5, .ref 1]) rfl rfl ?_
    refine wq_cv (Dq := (D + 2)) (r' := mm_r30) (as0 := [dz_I 5]) (rest := []) (ls' := [some (.ref 1), some (dz_I 5)]) (pc' := 18) rfl rfl rfl rfl ho_R rfl rfl rfl ?_
    refine jw_R_fail (X := X) (D := D + 2) 5 Z (dz_pm (dz_bi H) (fun q19 H => ?_))
    show mm_Wp X (D + 3) mm_r48 18 [some (.ref 1), some (dz_I (Z ((Z 1 1 0).toNat) 11 0))] [dz_B q19.1] (hz_0 q19.2) Q
    refine wq_rb rfl rfl ?_
    replace H := dz_sm H
    exact H
-- 49
def jf_R_readWear (Z : dz_Z) : Option (Bool × dz_Z) := if dz_c (Z 1 5 0) = 0 then (dz_a (dz_u Z 1 5 0 1) fun Z2 => Option.bind (jf_R_needsNumber 0 999 Z2) fun q3 => if q3.1 = true then (if hz_isP (q3.2 1 1 0).toNat then dz_a (dz_u q3.2 ((q3.2 1 1 0).toNat) 15 0 (q3.2 1 9 0)) fun Z6 => Option.bind (jf_R_needs 4 Z6) fun q7 => some (q7.1, q7.2) else none) else (some (false, q3.2))) else (Option.bind (jf_R_fail 4 Z) fun q8 => some (q8.1, q8.2))
set_option maxRecDepth 20000 in
theorem jw_R_readWear {X : Option (List Int32)} {D : Nat} {Q : Option Value → mm_H → Prop} (Z : dz_Z) (H : dz_p (jf_R_readWear Z) (fun q => Q (some (dz_B q.1)) (hz_0 q.2))) : mm_Wp X (D + 3) mm_r49 0 [some (.ref 1)] [] (hz_0 Z) Q := by
  unfold jf_R_readWear at H
  refine wp_s (i := .aload_n 0) (n := 1) (pc' := 1) (st' := [.ref 1]) rfl rfl ?_
  refine wq_gi (idx := 36) (pc' := 4) rfl rfl ho_R rfl rfl ?_
  refine wq_if (p := dz_c (Z 1 5 0) = 0) (tt := 13) (pc' := 7) rfl rfl (cz_eq rfl) rfl (fun c1 => ?_) (fun c1 => ?_)
  · replace H := dz_it c1 H
    refine wp_s (i := .aload_n 0) (n := 1) (pc' := 14) (st' := [.ref 1]) rfl rfl ?_
    refine wp_s (i := .iconst 1) (n := 1) (pc' := 15) (st' := [dz_I 1, .ref 1]) rfl rfl ?_
    refine wq_pi (idx := 36) (x := 1) (pc' := 18) rfl rfl rfl ho_R rfl rfl rfl rfl (fun Z2 eZ2 => ?_)
    replace H := dz_le H Z2 eZ2
    clear eZ2
    refine wp_s (i := .aload_n 0) (n := 1) (pc' := 19) (st' := [.ref 1]) rfl rfl ?_
    refine wp_s (i := .iconst 0) (n := 1) (pc' := 20) (st' := [dz_I 0, .ref 1]) rfl rfl ?_
    refine wp_s (i := .sipush 999) (n := 3) (pc' := 23) (st' := [dz_I 999, dz_I 0, .ref 1]) rfl rfl ?_
    refine wq_cv (Dq := (D + 2)) (r' := mm_r36) (as0 := [dz_I 0, dz_I 999]) (rest := []) (ls' := [some (.ref 1), some (dz_I 0), some (dz_I 999)]) (pc' := 26) rfl rfl rfl rfl ho_R rfl rfl rfl ?_
    refine jw_R_needsNumber (X := X) (D := D + 0) 0 999 Z2 (dz_pm (dz_bi H) (fun q3 H => ?_))
    show mm_Wp X (D + 3) mm_r49 26 [some (.ref 1)] [dz_B q3.1] (hz_0 q3.2) Q
    refine wq_if (p := q3.1 = true) (tt := 31) (pc' := 29) rfl rfl (cb_ne) rfl (fun c4 => ?_) (fun c4 => ?_)
    · replace H := dz_it c4 H
      refine wp_s (i := .aload_n 0) (n := 1) (pc' := 32) (st' := [.ref 1]) rfl rfl ?_
      obtain ⟨k5, H⟩ := dz_ck H
      refine wq_gd (idx := 21) (pc' := 35) rfl rfl ho_R rfl rfl ?_
      refine wp_s (i := .aload_n 0) (n := 1) (pc' := 36) (st' := [.ref 1, .ref ((q3.2 1 1 0).toNat)]) rfl rfl ?_
      refine wq_gi (idx := 87) (pc' := 39) rfl rfl ho_R rfl rfl ?_
      refine wq_pi (idx := 235) (x := q3.2 1 9 0) (pc' := 42) rfl rfl rfl (ho_P k5) rfl rfl rfl rfl (fun Z6 eZ6 => ?_)
      replace H := dz_le H Z6 eZ6
      clear eZ6
      refine wp_s (i := .aload_n 0) (n := 1) (pc' := 43) (st' := [.ref 1]) rfl rfl ?_
      refine wp_s (i := .iconst 4) (n := 1) (pc' := 44) (st' := [dz_I 4, .ref 1]) rfl rfl ?_
      refine wq_cv (Dq := (D + 2)) (r' := mm_r35) (as0 := [dz_I 4]) (rest := []) (ls' := [some (.ref 1), some (dz_I 4)]) (pc' := 47) rfl rfl rfl rfl ho_R rfl rfl rfl ?_
      refine jw_R_needs (X := X) (D := D + 0) 4 Z6 (dz_pm (dz_bi H) (fun q7 H => ?_))
      show mm_Wp X (D + 3) mm_r49 47 [some (.ref 1)] [dz_B q7.1] (hz_0 q7.2) Q
      refine wq_rb rfl rfl ?_
      replace H := dz_sm H
      exact H
    · replace H := dz_if c4 H
      refine wp_s (i := .iconst 0) (n := 1) (pc' := 30) (st' := [dz_I 0]) rfl rfl ?_
      refine wq_rf rfl rfl ?_
      replace H := dz_sm H
      exact H
  · replace H := dz_if c1 H
    refine wp_s (i := .aload_n 0) (n := 1) (pc' := 8) (st' := [.ref 1]) rfl rfl ?_
    refine wp_s (i := .iconst 4) (n := 1) (pc' := 9) (st' := [dz_I 4, .ref 1]) rfl rfl ?_
    refine wq_cv (Dq := (D + 2)) (r' := mm_r30) (as0 := [dz_I 4]) (rest := []) (ls' := [some (.ref 1), some (dz_I 4)]) (pc' := 12) rfl rfl rfl rfl ho_R rfl rfl rfl ?_
    refine jw_R_fail (X := X) (D := D + 2) 4 Z (dz_pm (dz_bi H) (fun q8 H => ?_))
    show mm_Wp X (D + 3) mm_r49 12 [some (.ref 1)] [dz_B q8.1] (hz_0 q8.2) Q
    refine wq_rb rfl rfl ?_
    replace H := dz_sm H
    exact H
end mg_25m03
