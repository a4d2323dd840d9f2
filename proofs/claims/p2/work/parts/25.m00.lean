-- 1
def jf_K_begin (a1 : Int) (a2 : Int) (Z : dz_Z) : Option (dz_Z) := dz_a (dz_u Z 65 6 0 a1) fun Z1 => dz_a (dz_u Z1 65 7 0 a2) fun Z2 => dz_a (dz_u Z2 65 3 0 0) fun Z3 => some Z3
set_option maxRecDepth 20000 in
theorem jw_K_begin {X : Option (List Int32)} {D : Nat} {Q : Option Value → mm_H → Prop} (a1 : Int) (a2 : Int) (Z : dz_Z) (H : dz_p (jf_K_begin a1 a2 Z) (fun q => Q (none) (hz_0 q))) : mm_Wp X D mm_r1 0 [some (.ref 65), some (dz_I a1), some (dz_I a2)] [] (hz_0 Z) Q := by
  unfold jf_K_begin at H
  refine wp_s (i := .aload_n 0) (n := 1) (pc' := 1) (st' := [.ref 65]) rfl rfl ?_
  refine wp_s (i := .iload_n 1) (n := 1) (pc' := 2) (st' := [dz_I a1, .ref 65]) rfl rfl ?_
  refine wq_pi (idx := 9) (x := a1) (pc' := 5) rfl rfl rfl ho_K rfl rfl rfl rfl (fun Z1 eZ1 => ?_)
  replace H := dz_le H Z1 eZ1
  clear eZ1
  refine wp_s (i := .aload_n 0) (n := 1) (pc' := 6) (st' := [.ref 65]) rfl rfl ?_
  refine wp_s (i := .iload_n 2) (n := 1) (pc' := 7) (st' := [dz_I a2, .ref 65]) rfl rfl ?_
  refine wq_pi (idx := 15) (x := a2) (pc' := 10) rfl rfl rfl ho_K rfl rfl rfl rfl (fun Z2 eZ2 => ?_)
  replace H := dz_le H Z2 eZ2
  clear eZ2
  refine wp_s (i := .aload_n 0) (n := 1) (pc' := 11) (st' := [.ref 65]) rfl rfl ?_
  refine wp_s (i := .iconst 0) (n := 1) (pc' := 12) (st' := [dz_I 0, .ref 65]) rfl rfl ?_
  refine wq_pi (idx := 18) (x := 0) (pc' := 15) rfl rfl rfl ho_K rfl rfl rfl rfl (fun Z3 eZ3 => ?_)
  replace H := dz_le H Z3 eZ3
  clear eZ3
  refine wq_rv rfl rfl ?_
  replace H := dz_sm H
  exact H
-- 3
def jf_K_changedPegs (a1 : Int) (Z : dz_Z) : Option (Int) := dz_lp (fun (s1 : Int × Int × Int × Int) => if dz_c (Z 65 7 0) ≤ dz_c s1.2.2.2 then (some (Sum.inr s1.2.2.1)) else (Option.bind (α := Int) (if dz_c (Int.tmod (dz_c s1.1) 3) = dz_c (Int.tmod (dz_c s1.2.1) 3) then (some 0) else (some 1)) (fun (q4 : Int) => some (Sum.inl (Int.tdiv (dz_c s1.1) 3, Int.tdiv (dz_c s1.2.1) 3, s1.2.2.1 + q4, s1.2.2.2 + 1))))) 5000 (Z 65 6 0, a1, 0, 0)
set_option maxRecDepth 20000 in
theorem jw_K_changedPegs {X : Option (List Int32)} {D : Nat} {Q : Option Value → mm_H → Prop} (a1 : Int) (Z : dz_Z) (H : dz_p (jf_K_changedPegs a1 Z) (fun q => Q (some (dz_I q)) (hz_0 Z))) : mm_Wp X D mm_r3 0 [some (.ref 65), some (dz_I a1), none, none, none, none] [] (hz_0 Z) Q := by
  unfold jf_K_changedPegs at H
  refine wp_s (i := .aload_n 0) (n := 1) (pc' := 1) (st' := [.ref 65]) rfl rfl ?_
  refine wq_gi (idx := 9) (pc' := 4) rfl rfl ho_K rfl rfl ?_
  refine wq_st (k := 2) (i := .istore_n 2) (n := 1) (ls' := [some (.ref 65), some (dz_I a1), some (dz_I (Z 65 6 0)), none, none, none]) (pc' := 5) rfl rfl rfl rfl rfl ?_
  refine wp_s (i := .iload_n 1) (n := 1) (pc' := 6) (st' := [dz_I a1]) rfl rfl ?_
  refine wq_st (k := 3) (i := .istore_n 3) (n := 1) (ls' := [some (.ref 65), some (dz_I a1), some (dz_I (Z 65 6 0)), some (dz_I a1), none, none]) (pc' := 7) rfl rfl rfl rfl rfl ?_
  refine wp_s (i := .iconst 0) (n := 1) (pc' := 8) (st' := [dz_I 0]) rfl rfl ?_
  refine wq_st (k := 4) (i := .istore 4) (n := 2) (ls' := [some (.ref 65), some (dz_I a1), some (dz_I (Z 65 6 0)), some (dz_I a1), some (dz_I 0), none]) (pc' := 10) rfl rfl rfl rfl rfl ?_
  refine wp_s (i := .iconst 0) (n := 1) (pc' := 11) (st' := [dz_I 0]) rfl rfl ?_
  refine wq_st (k := 5) (i := .istore 5) (n := 2) (ls' := [some (.ref 65), some (dz_I a1), some (dz_I (Z 65 6 0)), some (dz_I a1), some (dz_I 0), some (dz_I 0)]) (pc' := 13) rfl rfl rfl rfl rfl ?_
  refine dz_lpi (P := fun (s1 : Int × Int × Int × Int) => mm_Wp X D mm_r3 13 [some (.ref 65), some (dz_I a1), some (dz_I s1.1), some (dz_I s1.2.1), some (dz_I s1.2.2.1), some (dz_I s1.2.2.2)] [] (hz_0 Z) Q) (fun s1 H => ?_) 5000 (Z 65 6 0, a1, 0, 0) H
  refine wp_s (i := .iload 5) (n := 2) (pc' := 15) (st' := [dz_I s1.2.2.2]) rfl rfl ?_
  refine wp_s (i := .aload_n 0) (n := 1) (pc' := 16) (st' := [.ref 65, dz_I s1.2.2.2]) rfl rfl ?_
  refine wq_gi (idx := 15) (pc' := 19) rfl rfl ho_K rfl rfl ?_
  refine wq_ic (p := dz_c (Z 65 7 0) ≤ dz_c s1.2.2.2) (tt := 55) (pc' := 22) rfl rfl (cq_ge rfl rfl) rfl (fun c2 => ?_) (fun c2 => ?_)
  · replace H := dz_it c2 H
    refine wp_s (i := .iload 4) (n := 2) (pc' := 57) (st' := [dz_I s1.2.2.1]) rfl rfl ?_
    refine wq_ri rfl rfl ?_
    replace H := dz_out H
    replace H := dz_sm H
    exact H
  · replace H := dz_if c2 H
    refine wp_s (i := .iload 4) (n := 2) (pc' := 24) (st' := [dz_I s1.2.2.1]) rfl rfl ?_
    refine wp_s (i := .iload_n 2) (n := 1) (pc' := 25) (st' := [dz_I s1.1, dz_I s1.2.2.1]) rfl rfl ?_
    refine wp_s (i := .iconst 3) (n := 1) (pc' := 26) (st' := [dz_I 3, dz_I s1.1, dz_I s1.2.2.1]) rfl rfl ?_
    refine wq_2 (i := .irem) (z := Int.tmod (dz_c s1.1) 3) (pc' := 27) rfl rfl (op_rem rfl dk_3 (by decide)) rfl ?_
    refine wp_s (i := .iload_n 3) (n := 1) (pc' := 28) (st' := [dz_I s1.2.1, dz_I (Int.tmod (dz_c s1.1) 3), dz_I s1.2.2.1]) rfl rfl ?_
    refine wp_s (i := .iconst 3) (n := 1) (pc' := 29) (st' := [dz_I 3, dz_I s1.2.1, dz_I (Int.tmod (dz_c s1.1) 3), dz_I s1.2.2.1]) rfl rfl ?_
    refine wq_2 (i := .irem) (z := Int.tmod (dz_c s1.2.1) 3) (pc' := 30) rfl rfl (op_rem rfl dk_3 (by decide)) rfl ?_
    refine dz_jn (P := fun (q4 : Int) => mm_Wp X D mm_r3 38 [some (.ref 65), some (dz_I a1), some (dz_I s1.1), some (dz_I s1.2.1), some (dz_I s1.2.2.1), some (dz_I s1.2.2.2)] [dz_I q4, dz_I s1.2.2.1] (hz_0 Z) Q) (dz_bi H) (fun q4 H => ?_) (fun H => ?_)
    · skip
      refine wq_2 (i := .iadd) (z := s1.2.2.1 + q4) (pc' := 39) rfl rfl (op_add _ _) rfl ?_
      refine wq_st (k := 4) (i := .istore 4) (n := 2) (ls' := [some (.ref 65), some (dz_I a1), some (dz_I s1.1), some (dz_I s1.2.1), some (dz_I (s1.2.2.1 + q4)), some (dz_I s1.2.2.2)]) (pc' := 41) rfl rfl rfl rfl rfl ?_
      refine wp_s (i := .iload_n 2) (n := 1) (pc' := 42) (st' := [dz_I s1.1]) rfl rfl ?_
      refine wp_s (i := .iconst 3) (n := 1) (pc' := 43) (st' := [dz_I 3, dz_I s1.1]) rfl rfl ?_
      refine wq_2 (i := .idiv) (z := Int.tdiv (dz_c s1.1) 3) (pc' := 44) rfl rfl (op_div rfl dk_3 (by decide)) rfl ?_
      refine wq_st (k := 2) (i := .istore_n 2) (n := 1) (ls' := [some (.ref 65), some (dz_I a1), some (dz_I (Int.tdiv (dz_c s1.1) 3)), some (dz_I s1.2.1), some (dz_I (s1.2.2.1 + q4)), some (dz_I s1.2.2.2)]) (pc' := 45) rfl rfl rfl rfl rfl ?_
      refine wp_s (i := .iload_n 3) (n := 1) (pc' := 46) (st' := [dz_I s1.2.1]) rfl rfl ?_
      refine wp_s (i := .iconst 3) (n := 1) (pc' := 47) (st' := [dz_I 3, dz_I s1.2.1]) rfl rfl ?_
      refine wq_2 (i := .idiv) (z := Int.tdiv (dz_c s1.2.1) 3) (pc' := 48) rfl rfl (op_div rfl dk_3 (by decide)) rfl ?_
      refine wq_st (k := 3) (i := .istore_n 3) (n := 1) (ls' := [some (.ref 65), some (dz_I a1), some (dz_I (Int.tdiv (dz_c s1.1) 3)), some (dz_I (Int.tdiv (dz_c s1.2.1) 3)), some (dz_I (s1.2.2.1 + q4)), some (dz_I s1.2.2.2)]) (pc' := 49) rfl rfl rfl rfl rfl ?_
      refine wq_inc (k := 5) (d := 1) (x := s1.2.2.2) (ls' := [some (.ref 65), some (dz_I a1), some (dz_I (Int.tdiv (dz_c s1.1) 3)), some (dz_I (Int.tdiv (dz_c s1.2.1) 3)), some (dz_I (s1.2.2.1 + q4)), some (dz_I (s1.2.2.2 + 1))]) (pc' := 52) rfl rfl rfl rfl ?_
      refine wp_s (i := .goto (-39)) (n := 3) (pc' := 13) (st' := []) rfl rfl ?_
      replace H := dz_back H
      exact H
    · skip
      refine wq_ic (p := dz_c (Int.tmod (dz_c s1.1) 3) = dz_c (Int.tmod (dz_c s1.2.1) 3)) (tt := 37) (pc' := 33) rfl rfl (cq_eq rfl rfl) rfl (fun c5 => ?_) (fun c5 => ?_)
      · replace H := dz_it c5 H
        refine wp_s (i := .iconst 0) (n := 1) (pc' := 38) (st' := [dz_I 0, dz_I s1.2.2.1]) rfl rfl ?_
        replace H := dz_sm H
        exact H
      · replace H := dz_if c5 H
        refine wp_s (i := .iconst 1) (n := 1) (pc' := 34) (st' := [dz_I 1, dz_I s1.2.2.1]) rfl rfl ?_
        refine wp_s (i := .goto 4) (n := 3) (pc' := 38) (st' := [dz_I 1, dz_I s1.2.2.1]) rfl rfl ?_
        replace H := dz_sm H
        exact H
-- 2
def jf_K_offer (a1 : Int) (a2 : Int) (Z : dz_Z) : Option (dz_Z) := Option.bind (jf_K_changedPegs a1 Z) fun q1 => Option.bind (α := Int) (if dz_c (Z 65 3 0) = 0 then (some 1) else (if dz_c (Z 65 1 0) ≤ dz_c a2 then (some 0) else (some 1))) (fun (q4 : Int) => dz_a (dz_u Z 65 3 0 ((Z 65 3 0) + 1)) fun Z5 => Option.bind (α := dz_Z) (if dz_c q4 = 0 then (some Z5) else (dz_a (dz_u Z5 65 0 0 a1) fun Z20 => dz_a (dz_u Z20 65 1 0 a2) fun Z21 => dz_a (dz_u Z21 65 2 0 0) fun Z22 => some Z22)) (fun (q10 : dz_Z) => if dz_c a2 ≠ dz_c (q10 65 1 0) then (some q10) else (dz_a (dz_u q10 65 2 0 ((q10 65 2 0) + 1)) fun Z12 => if dz_c q4 ≠ 0 then (dz_a (dz_u Z12 65 4 0 a1) fun Z14 => dz_a (dz_u Z14 65 5 0 q1) fun Z15 => some Z15) else (if dz_c (Z12 65 5 0) ≤ dz_c q1 then (some Z12) else (dz_a (dz_u Z12 65 4 0 a1) fun Z17 => dz_a (dz_u Z17 65 5 0 q1) fun Z18 => some Z18)))))
set_option maxRecDepth 20000 in
theorem jw_K_offer {X : Option (List Int32)} {D : Nat} {Q : Option Value → mm_H → Prop} (a1 : Int) (a2 : Int) (Z : dz_Z) (H : dz_p (jf_K_offer a1 a2 Z) (fun q => Q (none) (hz_0 q))) : mm_Wp X (D + 1) mm_r2 0 [some (.ref 65), some (dz_I a1), some (dz_I a2), none, none] [] (hz_0 Z) Q := by
  unfold jf_K_offer at H
  refine wp_s (i := .aload_n 0) (n := 1) (pc' := 1) (st' := [.ref 65]) rfl rfl ?_
  refine wp_s (i := .iload_n 1) (n := 1) (pc' := 2) (st' := [dz_I a1, .ref 65]) rfl rfl ?_
  refine wq_cv (Dq := D) (r' := mm_r3) (as0 := [dz_I a1]) (rest := []) (ls' := [some (.ref 65), some (dz_I a1), none, none, none, none]) (pc' := 5) rfl rfl rfl rfl ho_K rfl rfl rfl ?_
  refine jw_K_changedPegs (X := X) (D := D + 0) a1 Z (dz_pm (dz_bi H) (fun q1 H => ?_))
  show mm_Wp X (D + 1) mm_r2 5 [some (.ref 65), some (dz_I a1), some (dz_I a2), none, none] [dz_I q1] (hz_0 Z) Q
  refine wq_st (k := 3) (i := .istore_n 3) (n := 1) (ls' := [some (.ref 65), some (dz_I a1), some (dz_I a2), some (dz_I q1), none]) (pc' := 6) rfl rfl rfl rfl rfl ?_
  refine wp_s (i := .aload_n 0) (n := 1) (pc' := 7) (st' := [.ref 65]) rfl rfl ?_
  refine wq_gi (idx := 18) (pc' := 10) rfl rfl ho_K rfl rfl ?_
  refine dz_jn (P := fun (q4 : Int) => mm_Wp X (D + 1) mm_r2 26 [some (.ref 65), some (dz_I a1), some (dz_I a2), some (dz_I q1), none] [dz_I q4] (hz_0 Z) Q) (dz_bi H) (fun q4 H => ?_) (fun H => ?_)
  · skip
    refine wq_st (k := 4) (i := .istore 4) (n := 2) (ls' := [some (.ref 65), some (dz_I a1), some (dz_I a2), some (dz_I q1), some (dz_I q4)]) (pc' := 28) rfl rfl rfl rfl rfl ?_
    refine wp_s (i := .aload_n 0) (n := 1) (pc' := 29) (st' := [.ref 65]) rfl rfl ?_
    refine wp_s (i := .dup) (n := 1) (pc' := 30) (st' := [.ref 65, .ref 65]) rfl rfl ?_
    refine wq_gi (idx := 18) (pc' := 33) rfl rfl ho_K rfl rfl ?_
    refine wp_s (i := .iconst 1) (n := 1) (pc' := 34) (st' := [dz_I 1, dz_I (Z 65 3 0), .ref 65]) rfl rfl ?_
    refine wq_2 (i := .iadd) (z := (Z 65 3 0) + 1) (pc' := 35) rfl rfl (op_add _ _) rfl ?_
    refine wq_pi (idx := 18) (x := (Z 65 3 0) + 1) (pc' := 38) rfl rfl rfl ho_K rfl rfl rfl rfl (fun Z5 eZ5 => ?_)
    replace H := dz_le H Z5 eZ5
    clear eZ5
    refine wp_s (i := .iload 4) (n := 2) (pc' := 40) (st' := [dz_I q4]) rfl rfl ?_
    refine dz_jn (P := fun (q10 : dz_Z) => mm_Wp X (D + 1) mm_r2 58 [some (.ref 65), some (dz_I a1), some (dz_I a2), some (dz_I q1), some (dz_I q4)] [] (hz_0 q10) Q) (dz_bi H) (fun q10 H => ?_) (fun H => ?_)
    · skip
      refine wp_s (i := .iload_n 2) (n := 1) (pc' := 59) (st' := [dz_I a2]) rfl rfl ?_
      refine wp_s (i := .aload_n 0) (n := 1) (pc' := 60) (st' := [.ref 65, dz_I a2]) rfl rfl ?_
      refine wq_gi (idx := 25) (pc' := 63) rfl rfl ho_K rfl rfl ?_
      refine wq_ic (p := dz_c a2 ≠ dz_c (q10 65 1 0)) (tt := 99) (pc' := 66) rfl rfl (cq_ne rfl rfl) rfl (fun c11 => ?_) (fun c11 => ?_)
      · replace H := dz_it c11 H
        refine wq_rv rfl rfl ?_
        replace H := dz_sm H
        exact H
      · replace H := dz_if c11 H
        refine wp_s (i := .aload_n 0) (n := 1) (pc' := 67) (st' := [.ref 65]) rfl rfl ?_
        refine wp_s (i := .dup) (n := 1) (pc' := 68) (st' := [.ref 65, .ref 65]) rfl rfl ?_
        refine wq_gi (idx := 31) (pc' := 71) rfl rfl ho_K rfl rfl ?_
        refine wp_s (i := .iconst 1) (n := 1) (pc' := 72) (st' := [dz_I 1, dz_I (q10 65 2 0), .ref 65]) rfl rfl ?_
        refine wq_2 (i := .iadd) (z := (q10 65 2 0) + 1) (pc' := 73) rfl rfl (op_add _ _) rfl ?_
        refine wq_pi (idx := 31) (x := (q10 65 2 0) + 1) (pc' := 76) rfl rfl rfl ho_K rfl rfl rfl rfl (fun Z12 eZ12 => ?_)
        replace H := dz_le H Z12 eZ12
        clear eZ12
        refine wp_s (i := .iload 4) (n := 2) (pc' := 78) (st' := [dz_I q4]) rfl rfl ?_
        refine wq_if (p := dz_c q4 ≠ 0) (tt := 89) (pc' := 81) rfl rfl (cz_ne rfl) rfl (fun c13 => ?_) (fun c13 => ?_)
        · replace H := dz_it c13 H
          refine wp_s (i := .aload_n 0) (n := 1) (pc' := 90) (st' := [.ref 65]) rfl rfl ?_
          refine wp_s (i := .iload_n 1) (n := 1) (pc' := 91) (st' := [dz_I a1, .ref 65]) rfl rfl ?_
          refine wq_pi (idx := 37) (x := a1) (pc' := 94) rfl rfl rfl ho_K rfl rfl rfl rfl (fun Z14 eZ14 => ?_)
          replace H := dz_le H Z14 eZ14
          clear eZ14
          refine wp_s (i := .aload_n 0) (n := 1) (pc' := 95) (st' := [.ref 65]) rfl rfl ?_
          refine wp_s (i := .iload_n 3) (n := 1) (pc' := 96) (st' := [dz_I q1, .ref 65]) rfl rfl ?_
          refine wq_pi (idx := 34) (x := q1) (pc' := 99) rfl rfl rfl ho_K rfl rfl rfl rfl (fun Z15 eZ15 => ?_)
          replace H := dz_le H Z15 eZ15
          clear eZ15
          refine wq_rv rfl rfl ?_
          replace H := dz_sm H
          exact H
        · replace H := dz_if c13 H
          refine wp_s (i := .iload_n 3) (n := 1) (pc' := 82) (st' := [dz_I q1]) rfl rfl ?_
          refine wp_s (i := .aload_n 0) (n := 1) (pc' := 83) (st' := [.ref 65, dz_I q1]) rfl rfl ?_
          refine wq_gi (idx := 34) (pc' := 86) rfl rfl ho_K rfl rfl ?_
          refine wq_ic (p := dz_c (Z12 65 5 0) ≤ dz_c q1) (tt := 99) (pc' := 89) rfl rfl (cq_ge rfl rfl) rfl (fun c16 => ?_) (fun c16 => ?_)
          · replace H := dz_it c16 H
            refine wq_rv rfl rfl ?_
            replace H := dz_sm H
            exact H
          · replace H := dz_if c16 H
            refine wp_s (i := .aload_n 0) (n := 1) (pc' := 90) (st' := [.ref 65]) rfl rfl ?_
            refine wp_s (i := .iload_n 1) (n := 1) (pc' := 91) (st' := [dz_I a1, .ref 65]) rfl rfl ?_
            refine wq_pi (idx := 37) (x := a1) (pc' := 94) rfl rfl rfl ho_K rfl rfl rfl rfl (fun Z17 eZ17 => ?_)
            replace H := dz_le H Z17 eZ17
            clear eZ17
            refine wp_s (i := .aload_n 0) (n := 1) (pc' := 95) (st' := [.ref 65]) rfl rfl ?_
            refine wp_s (i := .iload_n 3) (n := 1) (pc' := 96) (st' := [dz_I q1, .ref 65]) rfl rfl ?_
            refine wq_pi (idx := 34) (x := q1) (pc' := 99) rfl rfl rfl ho_K rfl rfl rfl rfl (fun Z18 eZ18 => ?_)
            replace H := dz_le H Z18 eZ18
            clear eZ18
            refine wq_rv rfl rfl ?_
            replace H := dz_sm H
            exact H
    · skip
      refine wq_if (p := dz_c q4 = 0) (tt := 58) (pc' := 43) rfl rfl (cz_eq rfl) rfl (fun c19 => ?_) (fun c19 => ?_)
      · replace H := dz_it c19 H
        replace H := dz_sm H
        exact H
      · replace H := dz_if c19 H
        refine wp_s (i := .aload_n 0) (n := 1) (pc' := 44) (st' := [.ref 65]) rfl rfl ?_
        refine wp_s (i := .iload_n 1) (n := 1) (pc' := 45) (st' := [dz_I a1, .ref 65]) rfl rfl ?_
        refine wq_pi (idx := 28) (x := a1) (pc' := 48) rfl rfl rfl ho_K rfl rfl rfl rfl (fun Z20 eZ20 => ?_)
        replace H := dz_le H Z20 eZ20
        clear eZ20
        refine wp_s (i := .aload_n 0) (n := 1) (pc' := 49) (st' := [.ref 65]) rfl rfl ?_
        refine wp_s (i := .iload_n 2) (n := 1) (pc' := 50) (st' := [dz_I a2, .ref 65]) rfl rfl ?_
        refine wq_pi (idx := 25) (x := a2) (pc' := 53) rfl rfl rfl ho_K rfl rfl rfl rfl (fun Z21 eZ21 => ?_)
        replace H := dz_le H Z21 eZ21
        clear eZ21
        refine wp_s (i := .aload_n 0) (n := 1) (pc' := 54) (st' := [.ref 65]) rfl rfl ?_
        refine wp_s (i := .iconst 0) (n := 1) (pc' := 55) (st' := [dz_I 0, .ref 65]) rfl rfl ?_
        refine wq_pi (idx := 31) (x := 0) (pc' := 58) rfl rfl rfl ho_K rfl rfl rfl rfl (fun Z22 eZ22 => ?_)
        replace H := dz_le H Z22 eZ22
        clear eZ22
        replace H := dz_sm H
        exact H
  · skip
    refine wq_if (p := dz_c (Z 65 3 0) = 0) (tt := 21) (pc' := 13) rfl rfl (cz_eq rfl) rfl (fun c23 => ?_) (fun c23 => ?_)
    · replace H := dz_it c23 H
      refine wp_s (i := .iconst 1) (n := 1) (pc' := 22) (st' := [dz_I 1]) rfl rfl ?_
      refine wp_s (i := .goto 4) (n := 3) (pc' := 26) (st' := [dz_I 1]) rfl rfl ?_
      replace H := dz_sm H
      exact H
    · replace H := dz_if c23 H
      refine wp_s (i := .iload_n 2) (n := 1) (pc' := 14) (st' := [dz_I a2]) rfl rfl ?_
      refine wp_s (i := .aload_n 0) (n := 1) (pc' := 15) (st' := [.ref 65, dz_I a2]) rfl rfl ?_
      refine wq_gi (idx := 25) (pc' := 18) rfl rfl ho_K rfl rfl ?_
      refine wq_ic (p := dz_c (Z 65 1 0) ≤ dz_c a2) (tt := 25) (pc' := 21) rfl rfl (cq_ge rfl rfl) rfl (fun c24 => ?_) (fun c24 => ?_)
      · replace H := dz_it c24 H
        refine wp_s (i := .iconst 0) (n := 1) (pc' := 26) (st' := [dz_I 0]) rfl rfl ?_
        replace H := dz_sm H
        exact H
      · replace H := dz_if c24 H
        refine wp_s (i := .iconst 1) (n := 1) (pc' := 22) (st' := [dz_I 1]) rfl rfl ?_
        refine wp_s (i := .goto 4) (n := 3) (pc' := 26) (st' := [dz_I 1]) rfl rfl ?_
        replace H := dz_sm H
        exact H
-- 10
def jf_F_dryUp (c0 : Nat) (Z : dz_Z) : Option (dz_Z) := dz_a (dz_f Z c0 0 (fun _ => 0)) fun Z1 => dz_a (dz_f Z1 c0 1 (fun _ => 0)) fun Z2 => dz_a (dz_f Z2 c0 2 (fun _ => 0)) fun Z3 => dz_a (dz_f Z3 c0 3 (fun _ => 0)) fun Z4 => dz_a (dz_f Z4 c0 4 (fun _ => 0)) fun Z5 => dz_a (dz_u Z5 c0 5 0 0) fun Z6 => dz_a (dz_u Z6 c0 6 0 0) fun Z7 => dz_a (dz_u Z7 c0 7 0 0) fun Z8 => dz_a (dz_u Z8 c0 8 0 0) fun Z9 => dz_a (dz_u Z9 c0 9 0 0) fun Z10 => some Z10
set_option maxRecDepth 20000 in
theorem jw_F_dryUp {X : Option (List Int32)} {D : Nat} {Q : Option Value → mm_H → Prop} (c0 : Nat) (hc0 : hz_isF c0) (Z : dz_Z) (H : dz_p (jf_F_dryUp c0 Z) (fun q => Q (none) (hz_0 q))) : mm_Wp X (D + 1) mm_r10 0 [some (.ref c0)] [] (hz_0 Z) Q := by
  unfold jf_F_dryUp at H
  refine wp_s (i := .aload_n 0) (n := 1) (pc' := 1) (st' := [.ref c0]) rfl rfl ?_
  refine wq_gr (idx := 9) (a := c0 + 1) (pc' := 4) rfl rfl (ho_F hc0) rfl rfl ?_
  refine wp_s (i := .iconst 0) (n := 1) (pc' := 5) (st' := [dz_I 0, .ref (c0 + 1)]) rfl rfl ?_
  refine wq_cs (Dq := D) (r' := mm_r200) (as0 := [.ref (c0 + 1), dz_I 0]) (rest := []) (ls' := [some (.ref (c0 + 1)), some (dz_I 0), none, none]) (pc' := 8) rfl rfl (by decide) rfl rfl rfl rfl rfl ?_
  refine jw_fillI (ha_F_0 hc0) (by decide) (fun Z1 eZ1 => ?_)
  replace H := dz_le H Z1 eZ1
  clear eZ1
  show mm_Wp X (D + 1) mm_r10 8 [some (.ref c0)] [] (hz_0 Z1) Q
  refine wp_s (i := .aload_n 0) (n := 1) (pc' := 9) (st' := [.ref c0]) rfl rfl ?_
  refine wq_gr (idx := 15) (a := c0 + 2) (pc' := 12) rfl rfl (ho_F hc0) rfl rfl ?_
  refine wp_s (i := .iconst 0) (n := 1) (pc' := 13) (st' := [dz_I 0, .ref (c0 + 2)]) rfl rfl ?_
  refine wq_cs (Dq := D) (r' := mm_r200) (as0 := [.ref (c0 + 2), dz_I 0]) (rest := []) (ls' := [some (.ref (c0 + 2)), some (dz_I 0), none, none]) (pc' := 16) rfl rfl (by decide) rfl rfl rfl rfl rfl ?_
  refine jw_fillI (ha_F_1 hc0) (by decide) (fun Z2 eZ2 => ?_)
  replace H := dz_le H Z2 eZ2
  clear eZ2
  show mm_Wp X (D + 1) mm_r10 16 [some (.ref c0)] [] (hz_0 Z2) Q
  refine wp_s (i := .aload_n 0) (n := 1) (pc' := 17) (st' := [.ref c0]) rfl rfl ?_
  refine wq_gr (idx := 18) (a := c0 + 3) (pc' := 20) rfl rfl (ho_F hc0) rfl rfl ?_
  refine wp_s (i := .lconst 0) (n := 1) (pc' := 21) (st' := [dz_J 0, .ref (c0 + 3)]) rfl rfl ?_
  refine wq_cs (Dq := D) (r' := mm_r199) (as0 := [.ref (c0 + 3), dz_J 0]) (rest := []) (ls' := [some (.ref (c0 + 3)), some (dz_J 0), none, none, none]) (pc' := 24) rfl rfl (by decide) rfl rfl rfl rfl rfl ?_
  refine jw_fillJ (ha_F_2 hc0) (by decide) (fun Z3 eZ3 => ?_)
  replace H := dz_le H Z3 eZ3
  clear eZ3
  show mm_Wp X (D + 1) mm_r10 24 [some (.ref c0)] [] (hz_0 Z3) Q
  refine wp_s (i := .aload_n 0) (n := 1) (pc' := 25) (st' := [.ref c0]) rfl rfl ?_
  refine wq_gr (idx := 22) (a := c0 + 4) (pc' := 28) rfl rfl (ho_F hc0) rfl rfl ?_
  refine wp_s (i := .iconst 0) (n := 1) (pc' := 29) (st' := [dz_I 0, .ref (c0 + 4)]) rfl rfl ?_
  refine wq_cs (Dq := D) (r' := mm_r200) (as0 := [.ref (c0 + 4), dz_I 0]) (rest := []) (ls' := [some (.ref (c0 + 4)), some (dz_I 0), none, none]) (pc' := 32) rfl rfl (by decide) rfl rfl rfl rfl rfl ?_
  refine jw_fillI (ha_F_3 hc0) (by decide) (fun Z4 eZ4 => ?_)
  replace H := dz_le H Z4 eZ4
  clear eZ4
  show mm_Wp X (D + 1) mm_r10 32 [some (.ref c0)] [] (hz_0 Z4) Q
  refine wp_s (i := .aload_n 0) (n := 1) (pc' := 33) (st' := [.ref c0]) rfl rfl ?_
  refine wq_gr (idx := 25) (a := c0 + 5) (pc' := 36) rfl rfl (ho_F hc0) rfl rfl ?_
  refine wp_s (i := .iconst 0) (n := 1) (pc' := 37) (st' := [dz_I 0, .ref (c0 + 5)]) rfl rfl ?_
  refine wq_cs (Dq := D) (r' := mm_r200) (as0 := [.ref (c0 + 5), dz_I 0]) (rest := []) (ls' := [some (.ref (c0 + 5)), some (dz_I 0), none, none]) (pc' := 40) rfl rfl (by decide) rfl rfl rfl rfl rfl ?_
  refine jw_fillI (ha_F_4 hc0) (by decide) (fun Z5 eZ5 => ?_)
  replace H := dz_le H Z5 eZ5
  clear eZ5
  show mm_Wp X (D + 1) mm_r10 40 [some (.ref c0)] [] (hz_0 Z5) Q
  refine wp_s (i := .aload_n 0) (n := 1) (pc' := 41) (st' := [.ref c0]) rfl rfl ?_
  refine wp_s (i := .iconst 0) (n := 1) (pc' := 42) (st' := [dz_I 0, .ref c0]) rfl rfl ?_
  refine wq_pi (idx := 43) (x := 0) (pc' := 45) rfl rfl rfl (ho_F hc0) rfl rfl rfl rfl (fun Z6 eZ6 => ?_)
  replace H := dz_le H Z6 eZ6
  clear eZ6
  refine wp_s (i := .aload_n 0) (n := 1) (pc' := 46) (st' := [.ref c0]) rfl rfl ?_
  refine wp_s (i := .iconst 0) (n := 1) (pc' := 47) (st' := [dz_I 0, .ref c0]) rfl rfl ?_
  refine wq_pi (idx := 47) (x := 0) (pc' := 50) rfl rfl rfl (ho_F hc0) rfl rfl rfl rfl (fun Z7 eZ7 => ?_)
  replace H := dz_le H Z7 eZ7
  clear eZ7
  refine wp_s (i := .aload_n 0) (n := 1) (pc' := 51) (st' := [.ref c0]) rfl rfl ?_
  refine wp_s (i := .iconst 0) (n := 1) (pc' := 52) (st' := [dz_I 0, .ref c0]) rfl rfl ?_
  refine wq_pi (idx := 50) (x := 0) (pc' := 55) rfl rfl rfl (ho_F hc0) rfl rfl rfl rfl (fun Z8 eZ8 => ?_)
  replace H := dz_le H Z8 eZ8
  clear eZ8
  refine wp_s (i := .aload_n 0) (n := 1) (pc' := 56) (st' := [.ref c0]) rfl rfl ?_
  refine wp_s (i := .iconst 0) (n := 1) (pc' := 57) (st' := [dz_I 0, .ref c0]) rfl rfl ?_
  refine wq_pi (idx := 53) (x := 0) (pc' := 60) rfl rfl rfl (ho_F hc0) rfl rfl rfl rfl (fun Z9 eZ9 => ?_)
  replace H := dz_le H Z9 eZ9
  clear eZ9
  refine wp_s (i := .aload_n 0) (n := 1) (pc' := 61) (st' := [.ref c0]) rfl rfl ?_
  refine wp_s (i := .iconst 0) (n := 1) (pc' := 62) (st' := [dz_I 0, .ref c0]) rfl rfl ?_
  refine wq_pi (idx := 56) (x := 0) (pc' := 65) rfl rfl rfl (ho_F hc0) rfl rfl rfl rfl (fun Z10 eZ10 => ?_)
  replace H := dz_le H Z10 eZ10
  clear eZ10
  refine wq_rv rfl rfl ?_
  replace H := dz_sm H
  exact H
-- 16
def jf_F_lead (c0 : Nat) (a1 : Int) (a2 : Int) (Z : dz_Z) : Option (dz_Z) := if dz_c a1 < 0 then (if dz_c a1 < 10 then (dz_a (dz_u Z c0 7 0 ((Z c0 7 0) + a2)) fun Z3 => some Z3) else (if 18 ≤ dz_c a1 then (dz_a (dz_u Z c0 7 0 ((Z c0 7 0) + a2)) fun Z5 => some Z5) else (if 0 ≤ dz_c (a1 - 10) ∧ dz_c (a1 - 10) < 8 then dz_a (dz_u Z c0 11 (dz_c (a1 - 10)) ((Z c0 11 (dz_c (a1 - 10))) + a2)) fun Z7 => some Z7 else none))) else (if 5 ≤ dz_c a1 then (if dz_c a1 < 10 then (dz_a (dz_u Z c0 7 0 ((Z c0 7 0) + a2)) fun Z10 => some Z10) else (if 18 ≤ dz_c a1 then (dz_a (dz_u Z c0 7 0 ((Z c0 7 0) + a2)) fun Z12 => some Z12) else (if 0 ≤ dz_c (a1 - 10) ∧ dz_c (a1 - 10) < 8 then dz_a (dz_u Z c0 11 (dz_c (a1 - 10)) ((Z c0 11 (dz_c (a1 - 10))) + a2)) fun Z14 => some Z14 else none))) else (if 0 ≤ dz_c a1 ∧ dz_c a1 < 5 then dz_a (dz_u Z c0 10 (dz_c a1) ((Z c0 10 (dz_c a1)) + a2)) fun Z16 => some Z16 else none))
set_option maxRecDepth 20000 in
theorem jw_F_lead {X : Option (List Int32)} {D : Nat} {Q : Option Value → mm_H → Prop} (c0 : Nat) (hc0 : hz_isF c0) (a1 : Int) (a2 : Int) (Z : dz_Z) (H : dz_p (jf_F_lead c0 a1 a2 Z) (fun q => Q (none) (hz_0 q))) : mm_Wp X D mm_r16 0 [some (.ref c0), some (dz_I a1), some (dz_I a2)] [] (hz_0 Z) Q := by
  unfold jf_F_lead at H
  refine wp_s (i := .iload_n 1) (n := 1) (pc' := 1) (st' := [dz_I a1]) rfl rfl ?_
  refine wq_if (p := dz_c a1 < 0) (tt := 22) (pc' := 4) rfl rfl (cz_lt rfl) rfl (fun c1 => ?_) (fun c1 => ?_)
  · replace H := dz_it c1 H
    refine wp_s (i := .iload_n 1) (n := 1) (pc' := 23) (st' := [dz_I a1]) rfl rfl ?_
    refine wp_s (i := .bipush 10) (n := 2) (pc' := 25) (st' := [dz_I 10, dz_I a1]) rfl rfl ?_
    refine wq_ic (p := dz_c a1 < 10) (tt := 50) (pc' := 28) rfl rfl (cq_lt rfl dk_10) rfl (fun c2 => ?_) (fun c2 => ?_)
    · replace H := dz_it c2 H
      refine wp_s (i := .aload_n 0) (n := 1) (pc' := 51) (st' := [.ref c0]) rfl rfl ?_
      refine wp_s (i := .dup) (n := 1) (pc' := 52) (st' := [.ref c0, .ref c0]) rfl rfl ?_
      refine wq_gi (idx := 50) (pc' := 55) rfl rfl (ho_F hc0) rfl rfl ?_
      refine wp_s (i := .iload_n 2) (n := 1) (pc' := 56) (st' := [dz_I a2, dz_I (Z c0 7 0), .ref c0]) rfl rfl ?_
      refine wq_2 (i := .iadd) (z := (Z c0 7 0) + a2) (pc' := 57) rfl rfl (op_add _ _) rfl ?_
      refine wq_pi (idx := 50) (x := (Z c0 7 0) + a2) (pc' := 60) rfl rfl rfl (ho_F hc0) rfl rfl rfl rfl (fun Z3 eZ3 => ?_)
      replace H := dz_le H Z3 eZ3
      clear eZ3
      refine wq_rv rfl rfl ?_
      replace H := dz_sm H
      exact H
    · replace H := dz_if c2 H
      refine wp_s (i := .iload_n 1) (n := 1) (pc' := 29) (st' := [dz_I a1]) rfl rfl ?_
      refine wp_s (i := .bipush 18) (n := 2) (pc' := 31) (st' := [dz_I 18, dz_I a1]) rfl rfl ?_
      refine wq_ic (p := 18 ≤ dz_c a1) (tt := 50) (pc' := 34) rfl rfl (cq_ge rfl dk_18) rfl (fun c4 => ?_) (fun c4 => ?_)
      · replace H := dz_it c4 H
        refine wp_s (i := .aload_n 0) (n := 1) (pc' := 51) (st' := [.ref c0]) rfl rfl ?_
        refine wp_s (i := .dup) (n := 1) (pc' := 52) (st' := [.ref c0, .ref c0]) rfl rfl ?_
        refine wq_gi (idx := 50) (pc' := 55) rfl rfl (ho_F hc0) rfl rfl ?_
        refine wp_s (i := .iload_n 2) (n := 1) (pc' := 56) (st' := [dz_I a2, dz_I (Z c0 7 0), .ref c0]) rfl rfl ?_
        refine wq_2 (i := .iadd) (z := (Z c0 7 0) + a2) (pc' := 57) rfl rfl (op_add _ _) rfl ?_
        refine wq_pi (idx := 50) (x := (Z c0 7 0) + a2) (pc' := 60) rfl rfl rfl (ho_F hc0) rfl rfl rfl rfl (fun Z5 eZ5 => ?_)
        replace H := dz_le H Z5 eZ5
        clear eZ5
        refine wq_rv rfl rfl ?_
        replace H := dz_sm H
        exact H
      · replace H := dz_if c4 H
        refine wp_s (i := .aload_n 0) (n := 1) (pc' := 35) (st' := [.ref c0]) rfl rfl ?_
        refine wq_gr (idx := 31) (a := c0 + 7) (pc' := 38) rfl rfl (ho_F hc0) rfl rfl ?_
        refine wp_s (i := .iload_n 1) (n := 1) (pc' := 39) (st' := [dz_I a1, .ref (c0 + 7)]) rfl rfl ?_
        refine wp_s (i := .bipush 10) (n := 2) (pc' := 41) (st' := [dz_I 10, dz_I a1, .ref (c0 + 7)]) rfl rfl ?_
        refine wq_2 (i := .isub) (z := a1 - 10) (pc' := 42) rfl rfl (op_sub _ _) rfl ?_
        refine wp_s (i := .dup2) (n := 1) (pc' := 43) (st' := [dz_I (a1 - 10), .ref (c0 + 7), dz_I (a1 - 10), .ref (c0 + 7)]) rfl rfl ?_
        obtain ⟨k6, H⟩ := dz_ck H
        refine wq_ia (j' := dz_c (a1 - 10)) (pc' := 44) rfl (ha_F_11 hc0) rfl k6.1 k6.2 rfl ?_
        refine wp_s (i := .iload_n 2) (n := 1) (pc' := 45) (st' := [dz_I a2, dz_I (Z c0 11 (dz_c (a1 - 10))), dz_I (a1 - 10), .ref (c0 + 7)]) rfl rfl ?_
        refine wq_2 (i := .iadd) (z := (Z c0 11 (dz_c (a1 - 10))) + a2) (pc' := 46) rfl rfl (op_add _ _) rfl ?_
        refine wq_is (j' := dz_c (a1 - 10)) (x := (Z c0 11 (dz_c (a1 - 10))) + a2) (pc' := 47) rfl (ha_F_11 hc0) rfl k6.1 k6.2 rfl (fun Z7 eZ7 => ?_)
        replace H := dz_le H Z7 eZ7
        clear eZ7
        refine wp_s (i := .goto 13) (n := 3) (pc' := 60) (st' := []) rfl rfl ?_
        refine wq_rv rfl rfl ?_
        replace H := dz_sm H
        exact H
  · replace H := dz_if c1 H
    refine wp_s (i := .iload_n 1) (n := 1) (pc' := 5) (st' := [dz_I a1]) rfl rfl ?_
    refine wp_s (i := .iconst 5) (n := 1) (pc' := 6) (st' := [dz_I 5, dz_I a1]) rfl rfl ?_
    refine wq_ic (p := 5 ≤ dz_c a1) (tt := 22) (pc' := 9) rfl rfl (cq_ge rfl dk_5) rfl (fun c8 => ?_) (fun c8 => ?_)
    · replace H := dz_it c8 H
      refine wp_s (i := .iload_n 1) (n := 1) (pc' := 23) (st' := [dz_I a1]) rfl rfl ?_
      refine wp_s (i := .bipush 10) (n := 2) (pc' := 25) (st' := [dz_I 10, dz_I a1]) rfl rfl ?_
      refine wq_ic (p := dz_c a1 < 10) (tt := 50) (pc' := 28) rfl rfl (cq_lt rfl dk_10) rfl (fun c9 => ?_) (fun c9 => ?_)
      · replace H := dz_it c9 H
        refine wp_s (i := .aload_n 0) (n := 1) (pc' := 51) (st' := [.ref c0]) rfl rfl ?_
        refine wp_s (i := .dup) (n := 1) (pc' := 52) (st' := [.ref c0, .ref c0]) rfl rfl ?_
        refine wq_gi (idx := 50) (pc' := 55) rfl rfl (ho_F hc0) rfl rfl ?_
        refine wp_s (i := .iload_n 2) (n := 1) (pc' := 56) (st' := [dz_I a2, dz_I (Z c0 7 0), .ref c0]) rfl rfl ?_
        refine wq_2 (i := .iadd) (z := (Z c0 7 0) + a2) (pc' := 57) rfl rfl (op_add _ _) rfl ?_
        refine wq_pi (idx := 50) (x := (Z c0 7 0) + a2) (pc' := 60) rfl rfl rfl (ho_F hc0) rfl rfl rfl rfl (fun Z10 eZ10 => ?_)
        replace H := dz_le H Z10 eZ10
        clear eZ10
        refine wq_rv rfl rfl ?_
        replace H := dz_sm H
        exact H
      · replace H := dz_if c9 H
        refine wp_s (i := .iload_n 1) (n := 1) (pc' := 29) (st' := [dz_I a1]) rfl rfl ?_
        refine wp_s (i := .bipush 18) (n := 2) (pc' := 31) (st' := [dz_I 18, dz_I a1]) rfl rfl ?_
        refine wq_ic (p := 18 ≤ dz_c a1) (tt := 50) (pc' := 34) rfl rfl (cq_ge rfl dk_18) rfl (fun c11 => ?_) (fun c11 => ?_)
        · replace H := dz_it c11 H
          refine wp_s (i := .aload_n 0) (n := 1) (pc' := 51) (st' := [.ref c0]) rfl rfl ?_
          refine wp_s (i := .dup) (n := 1) (pc' := 52) (st' := [.ref c0, .ref c0]) rfl rfl ?_
          refine wq_gi (idx := 50) (pc' := 55) rfl rfl (ho_F hc0) rfl rfl ?_
          refine wp_s (i := .iload_n 2) (n := 1) (pc' := 56) (st' := [dz_I a2, dz_I (Z c0 7 0), .ref c0]) rfl rfl ?_
          refine wq_2 (i := .iadd) (z := (Z c0 7 0) + a2) (pc' := 57) rfl rfl (op_add _ _) rfl ?_
          refine wq_pi (idx := 50) (x := (Z c0 7 0) + a2) (pc' := 60) rfl rfl rfl (ho_F hc0) rfl rfl rfl rfl (fun Z12 eZ12 => ?_)
          replace H := dz_le H Z12 eZ12
          clear eZ12
          refine wq_rv rfl rfl ?_
          replace H := dz_sm H
          exact H
        · replace H := dz_if c11 H
          refine wp_s (i := .aload_n 0) (n := 1) (pc' := 35) (st' := [.ref c0]) rfl rfl ?_
          refine wq_gr (idx := 31) (a := c0 + 7) (pc' := 38) rfl rfl (ho_F hc0) rfl rfl ?_
          refine wp_s (i := .iload_n 1) (n := 1) (pc' := 39) (st' := [dz_I a1, .ref (c0 + 7)]) rfl rfl ?_
          refine wp_s (i := .bipush 10) (n := 2) (pc' := 41) (st' := [dz_I 10, dz_I a1, .ref (c0 + 7)]) rfl rfl ?_
          refine wq_2 (i := .isub) (z := a1 - 10) (pc' := 42) rfl rfl (op_sub _ _) rfl ?_
          refine wp_s (i := .dup2) (n := 1) (pc' := 43) (st' := [dz_I (a1 - 10), .ref (c0 + 7), dz_I (a1 - 10), .ref (c0 + 7)]) rfl rfl ?_
          obtain ⟨k13, H⟩ := dz_ck H
          refine wq_ia (j' := dz_c (a1 - 10)) (pc' := 44) rfl (ha_F_11 hc0) rfl k13.1 k13.2 rfl ?_
          refine wp_s (i := .iload_n 2) (n := 1) (pc' := 45) (st' := [dz_I a2, dz_I (Z c0 11 (dz_c (a1 - 10))), dz_I (a1 - 10), .ref (c0 + 7)]) rfl rfl ?_
          refine wq_2 (i := .iadd) (z := (Z c0 11 (dz_c (a1 - 10))) + a2) (pc' := 46) rfl rfl (op_add _ _) rfl ?_
          refine wq_is (j' := dz_c (a1 - 10)) (x := (Z c0 11 (dz_c (a1 - 10))) + a2) (pc' := 47) rfl (ha_F_11 hc0) rfl k13.1 k13.2 rfl (fun Z14 eZ14 => ?_)
          replace H := dz_le H Z14 eZ14
          clear eZ14
          refine wp_s (i := .goto 13) (n := 3) (pc' := 60) (st' := []) rfl rfl ?_
          refine wq_rv rfl rfl ?_
          replace H := dz_sm H
          exact H
    · replace H := dz_if c8 H
      refine wp_s (i := .aload_n 0) (n := 1) (pc' := 10) (st' := [.ref c0]) rfl rfl ?_
      refine wq_gr (idx := 28) (a := c0 + 6) (pc' := 13) rfl rfl (ho_F hc0) rfl rfl ?_
      refine wp_s (i := .iload_n 1) (n := 1) (pc' := 14) (st' := [dz_I a1, .ref (c0 + 6)]) rfl rfl ?_
      refine wp_s (i := .dup2) (n := 1) (pc' := 15) (st' := [dz_I a1, .ref (c0 + 6), dz_I a1, .ref (c0 + 6)]) rfl rfl ?_
      obtain ⟨k15, H⟩ := dz_ck H
      refine wq_ia (j' := dz_c a1) (pc' := 16) rfl (ha_F_10 hc0) rfl k15.1 k15.2 rfl ?_
      refine wp_s (i := .iload_n 2) (n := 1) (pc' := 17) (st' := [dz_I a2, dz_I (Z c0 10 (dz_c a1)), dz_I a1, .ref (c0 + 6)]) rfl rfl ?_
      refine wq_2 (i := .iadd) (z := (Z c0 10 (dz_c a1)) + a2) (pc' := 18) rfl rfl (op_add _ _) rfl ?_
      refine wq_is (j' := dz_c a1) (x := (Z c0 10 (dz_c a1)) + a2) (pc' := 19) rfl (ha_F_10 hc0) rfl k15.1 k15.2 rfl (fun Z16 eZ16 => ?_)
      replace H := dz_le H Z16 eZ16
      clear eZ16
      refine wp_s (i := .goto 41) (n := 3) (pc' := 60) (st' := []) rfl rfl ?_
      refine wq_rv rfl rfl ?_
      replace H := dz_sm H
      exact H
-- 13
def jf_F_fallOnRoofs (c0 : Nat) (a1 : Nat) (a2 : Int) (Z : dz_Z) : Option (dz_Z) := dz_lp (fun (s1 : Int × dz_Z) => if dz_c (s1.2 a1 0 0) ≤ dz_c s1.1 then (some (Sum.inr s1.2)) else (if 0 ≤ dz_c s1.1 ∧ dz_c s1.1 < 4 then dz_a (dz_u s1.2 c0 6 0 ((s1.2 c0 6 0) + ((s1.2 a1 1 (dz_c s1.1)) * a2))) fun Z5 => Option.bind (jf_F_lead c0 (Z5 a1 2 (dz_c s1.1)) ((s1.2 a1 1 (dz_c s1.1)) * a2) Z5) fun q6 => some (Sum.inl (s1.1 + 1, q6)) else none)) 5000 (0, Z)
set_option maxRecDepth 20000 in
theorem jw_F_fallOnRoofs {X : Option (List Int32)} {D : Nat} {Q : Option Value → mm_H → Prop} (c0 : Nat) (hc0 : hz_isF c0) (a1 : Nat) (ha1 : hz_isP a1) (a2 : Int) (Z : dz_Z) (H : dz_p (jf_F_fallOnRoofs c0 a1 a2 Z) (fun q => Q (none) (hz_0 q))) : mm_Wp X (D + 1) mm_r13 0 [some (.ref c0), some (.ref a1), some (dz_I a2), none, none] [] (hz_0 Z) Q := by
  unfold jf_F_fallOnRoofs at H
  refine wp_s (i := .iconst 0) (n := 1) (pc' := 1) (st' := [dz_I 0]) rfl rfl ?_
  refine wq_st (k := 3) (i := .istore_n 3) (n := 1) (ls' := [some (.ref c0), some (.ref a1), some (dz_I a2), some (dz_I 0), none]) (pc' := 2) rfl rfl rfl rfl rfl ?_
  refine dz_lpi (P := fun (s1 : Int × dz_Z) => ∀ (u2 : Option Int32), mm_Wp X (D + 1) mm_r13 2 [some (.ref c0), some (.ref a1), some (dz_I a2), some (dz_I s1.1), Option.map Value.int u2] [] (hz_0 s1.2) Q) (fun s1 H => ?_) 5000 (0, Z) H none
  intro u2
  refine wp_s (i := .iload_n 3) (n := 1) (pc' := 3) (st' := [dz_I s1.1]) rfl rfl ?_
  refine wp_s (i := .aload_n 1) (n := 1) (pc' := 4) (st' := [.ref a1, dz_I s1.1]) rfl rfl ?_
  refine wq_gi (idx := 77) (pc' := 7) rfl rfl (ho_P ha1) rfl rfl ?_
  refine wq_ic (p := dz_c (s1.2 a1 0 0) ≤ dz_c s1.1) (tt := 49) (pc' := 10) rfl rfl (cq_ge rfl rfl) rfl (fun c3 => ?_) (fun c3 => ?_)
  · replace H := dz_it c3 H
    refine wq_rv rfl rfl ?_
    replace H := dz_out H
    replace H := dz_sm H
    exact H
  · replace H := dz_if c3 H
    refine wp_s (i := .aload_n 1) (n := 1) (pc' := 11) (st' := [.ref a1]) rfl rfl ?_
    refine wq_gr (idx := 82) (a := a1 + 1) (pc' := 14) rfl rfl (ho_P ha1) rfl rfl ?_
    refine wp_s (i := .iload_n 3) (n := 1) (pc' := 15) (st' := [dz_I s1.1, .ref (a1 + 1)]) rfl rfl ?_
    obtain ⟨k4, H⟩ := dz_ck H
    refine wq_ia (j' := dz_c s1.1) (pc' := 16) rfl (ha_P_1 ha1) rfl k4.1 k4.2 rfl ?_
    refine wp_s (i := .iload_n 2) (n := 1) (pc' := 17) (st' := [dz_I a2, dz_I (s1.2 a1 1 (dz_c s1.1))]) rfl rfl ?_
    refine wq_2 (i := .imul) (z := (s1.2 a1 1 (dz_c s1.1)) * a2) (pc' := 18) rfl rfl (op_mul _ _) rfl ?_
    refine wq_st (k := 4) (i := .istore 4) (n := 2) (ls' := [some (.ref c0), some (.ref a1), some (dz_I a2), some (dz_I s1.1), some (dz_I ((s1.2 a1 1 (dz_c s1.1)) * a2))]) (pc' := 20) rfl rfl rfl rfl rfl ?_
    refine wp_s (i := .aload_n 0) (n := 1) (pc' := 21) (st' := [.ref c0]) rfl rfl ?_
    refine wp_s (i := .dup) (n := 1) (pc' := 22) (st' := [.ref c0, .ref c0]) rfl rfl ?_
    refine wq_gi (idx := 47) (pc' := 25) rfl rfl (ho_F hc0) rfl rfl ?_
    refine wp_s (i := .iload 4) (n := 2) (pc' := 27) (st' := [dz_I ((s1.2 a1 1 (dz_c s1.1)) * a2), dz_I (s1.2 c0 6 0), .ref c0]) rfl rfl ?_
    refine wq_2 (i := .iadd) (z := (s1.2 c0 6 0) + ((s1.2 a1 1 (dz_c s1.1)) * a2)) (pc' := 28) rfl rfl (op_add _ _) rfl ?_
    refine wq_pi (idx := 47) (x := (s1.2 c0 6 0) + ((s1.2 a1 1 (dz_c s1.1)) * a2)) (pc' := 31) rfl rfl rfl (ho_F hc0) rfl rfl rfl rfl (fun Z5 eZ5 => ?_)
    replace H := dz_le H Z5 eZ5
    clear eZ5
    refine wp_s (i := .aload_n 0) (n := 1) (pc' := 32) (st' := [.ref c0]) rfl rfl ?_
    refine wp_s (i := .aload_n 1) (n := 1) (pc' := 33) (st' := [.ref a1, .ref c0]) rfl rfl ?_
    refine wq_gr (idx := 85) (a := a1 + 2) (pc' := 36) rfl rfl (ho_P ha1) rfl rfl ?_
    refine wp_s (i := .iload_n 3) (n := 1) (pc' := 37) (st' := [dz_I s1.1, .ref (a1 + 2), .ref c0]) rfl rfl ?_
    refine wq_ia (j' := dz_c s1.1) (pc' := 38) rfl (ha_P_2 ha1) rfl k4.1 k4.2 rfl ?_
    refine wp_s (i := .iload 4) (n := 2) (pc' := 40) (st' := [dz_I ((s1.2 a1 1 (dz_c s1.1)) * a2), dz_I (Z5 a1 2 (dz_c s1.1)), .ref c0]) rfl rfl ?_
    refine wq_cv (Dq := D) (r' := mm_r16) (as0 := [dz_I (Z5 a1 2 (dz_c s1.1)), dz_I ((s1.2 a1 1 (dz_c s1.1)) * a2)]) (rest := []) (ls' := [some (.ref c0), some (dz_I (Z5 a1 2 (dz_c s1.1))), some (dz_I ((s1.2 a1 1 (dz_c s1.1)) * a2))]) (pc' := 43) rfl rfl rfl rfl (ho_F hc0) rfl rfl rfl ?_
    refine jw_F_lead (X := X) (D := D + 0) c0 hc0 (Z5 a1 2 (dz_c s1.1)) ((s1.2 a1 1 (dz_c s1.1)) * a2) Z5 (dz_pm (dz_bi H) (fun q6 H => ?_))
    show mm_Wp X (D + 1) mm_r13 43 [some (.ref c0), some (.ref a1), some (dz_I a2), some (dz_I s1.1), some (dz_I ((s1.2 a1 1 (dz_c s1.1)) * a2))] [] (hz_0 q6) Q
    refine wq_inc (k := 3) (d := 1) (x := s1.1) (ls' := [some (.ref c0), some (.ref a1), some (dz_I a2), some (dz_I (s1.1 + 1)), some (dz_I ((s1.2 a1 1 (dz_c s1.1)) * a2))]) (pc' := 46) rfl rfl rfl rfl ?_
    refine wp_s (i := .goto (-44)) (n := 3) (pc' := 2) (st' := []) rfl rfl ?_
    replace H := dz_back H
    exact H (some (Int32.ofInt ((s1.2 a1 1 (dz_c s1.1)) * a2)))
-- 15
def jf_F_shareOfLeft (c0 : Nat) (a1 : Int) (a2 : Int) (Z : dz_Z) : Option (Int) := if dz_c a1 ≠ 0 then (if dz_c a1 ≠ 1 then (Option.bind (α := Int) (if dz_c (Int.tmod (dz_c (Z c0 5 0)) 2) ≠ 0 then (some 0) else (some 1)) (fun (q4 : Int) => if dz_c q4 = 0 then (some (Int.tdiv (dz_c a2) 2)) else (some (a2 - (Int.tdiv (dz_c a2) 2))))) else (some 0)) else (some a2)
set_option maxRecDepth 20000 in
theorem jw_F_shareOfLeft {X : Option (List Int32)} {D : Nat} {Q : Option Value → mm_H → Prop} (c0 : Nat) (hc0 : hz_isF c0) (a1 : Int) (a2 : Int) (Z : dz_Z) (H : dz_p (jf_F_shareOfLeft c0 a1 a2 Z) (fun q => Q (some (dz_I q)) (hz_0 Z))) : mm_Wp X D mm_r15 0 [some (.ref c0), some (dz_I a1), some (dz_I a2), none] [] (hz_0 Z) Q := by
  unfold jf_F_shareOfLeft at H
  refine wp_s (i := .iload_n 1) (n := 1) (pc' := 1) (st' := [dz_I a1]) rfl rfl ?_
  refine wq_if (p := dz_c a1 ≠ 0) (tt := 6) (pc' := 4) rfl rfl (cz_ne rfl) rfl (fun c1 => ?_) (fun c1 => ?_)
  · replace H := dz_it c1 H
    refine wp_s (i := .iload_n 1) (n := 1) (pc' := 7) (st' := [dz_I a1]) rfl rfl ?_
    refine wp_s (i := .iconst 1) (n := 1) (pc' := 8) (st' := [dz_I 1, dz_I a1]) rfl rfl ?_
    refine wq_ic (p := dz_c a1 ≠ 1) (tt := 13) (pc' := 11) rfl rfl (cq_ne rfl dk_1) rfl (fun c2 => ?_) (fun c2 => ?_)
    · replace H := dz_it c2 H
      refine wp_s (i := .aload_n 0) (n := 1) (pc' := 14) (st' := [.ref c0]) rfl rfl ?_
      refine wq_gi (idx := 43) (pc' := 17) rfl rfl (ho_F hc0) rfl rfl ?_
      refine wp_s (i := .iconst 2) (n := 1) (pc' := 18) (st' := [dz_I 2, dz_I (Z c0 5 0)]) rfl rfl ?_
      refine wq_2 (i := .irem) (z := Int.tmod (dz_c (Z c0 5 0)) 2) (pc' := 19) rfl rfl (op_rem rfl dk_2 (by decide)) rfl ?_
      refine dz_jn (P := fun (q4 : Int) => mm_Wp X D mm_r15 27 [some (.ref c0), some (dz_I a1), some (dz_I a2), none] [dz_I q4] (hz_0 Z) Q) (dz_bi H) (fun q4 H => ?_) (fun H => ?_)
      · skip
        refine wq_st (k := 3) (i := .istore_n 3) (n := 1) (ls' := [some (.ref c0), some (dz_I a1), some (dz_I a2), some (dz_I q4)]) (pc' := 28) rfl rfl rfl rfl rfl ?_
        refine wp_s (i := .iload_n 3) (n := 1) (pc' := 29) (st' := [dz_I q4]) rfl rfl ?_
        refine wq_if (p := dz_c q4 = 0) (tt := 40) (pc' := 32) rfl rfl (cz_eq rfl) rfl (fun c5 => ?_) (fun c5 => ?_)
        · replace H := dz_it c5 H
          refine wp_s (i := .iload_n 2) (n := 1) (pc' := 41) (st' := [dz_I a2]) rfl rfl ?_
          refine wp_s (i := .iconst 2) (n := 1) (pc' := 42) (st' := [dz_I 2, dz_I a2]) rfl rfl ?_
          refine wq_2 (i := .idiv) (z := Int.tdiv (dz_c a2) 2) (pc' := 43) rfl rfl (op_div rfl dk_2 (by decide)) rfl ?_
          refine wq_ri rfl rfl ?_
          replace H := dz_sm H
          exact H
        · replace H := dz_if c5 H
          refine wp_s (i := .iload_n 2) (n := 1) (pc' := 33) (st' := [dz_I a2]) rfl rfl ?_
          refine wp_s (i := .iload_n 2) (n := 1) (pc' := 34) (st' := [dz_I a2, dz_I a2]) rfl rfl ?_
          refine wp_s (i := .iconst 2) (n := 1) (pc' := 35) (st' := [dz_I 2, dz_I a2, dz_I a2]) rfl rfl ?_
          refine wq_2 (i := .idiv) (z := Int.tdiv (dz_c a2) 2) (pc' := 36) rfl rfl (op_div rfl dk_2 (by decide)) rfl ?_
          refine wq_2 (i := .isub) (z := a2 - (Int.tdiv (dz_c a2) 2)) (pc' := 37) rfl rfl (op_sub _ _) rfl ?_
          refine wp_s (i := .goto 6) (n := 3) (pc' := 43) (st' := [dz_I (a2 - (Int.tdiv (dz_c a2) 2))]) rfl rfl ?_
          refine wq_ri rfl rfl ?_
          replace H := dz_sm H
          exact H
      · skip
        refine wq_if (p := dz_c (Int.tmod (dz_c (Z c0 5 0)) 2) ≠ 0) (tt := 26) (pc' := 22) rfl rfl (cz_ne rfl) rfl (fun c6 => ?_) (fun c6 => ?_)
        · replace H := dz_it c6 H
          refine wp_s (i := .iconst 0) (n := 1) (pc' := 27) (st' := [dz_I 0]) rfl rfl ?_
          replace H := dz_sm H
          exact H
        · replace H := dz_if c6 H
          refine wp_s (i := .iconst 1) (n := 1) (pc' := 23) (st' := [dz_I 1]) rfl rfl ?_
          refine wp_s (i := .goto 4) (n := 3) (pc' := 27) (st' := [dz_I 1]) rfl rfl ?_
          replace H := dz_sm H
          exact H
    · replace H := dz_if c2 H
      refine wp_s (i := .iconst 0) (n := 1) (pc' := 12) (st' := [dz_I 0]) rfl rfl ?_
      refine wq_ri rfl rfl ?_
      replace H := dz_sm H
      exact H
  · replace H := dz_if c1 H
    refine wp_s (i := .iload_n 2) (n := 1) (pc' := 5) (st' := [dz_I a2]) rfl rfl ?_
    refine wq_ri rfl rfl ?_
    replace H := dz_sm H
    exact H
-- 14
def jf_F_runThroughGutters (c0 : Nat) (a1 : Nat) (a2 : Nat) (Z : dz_Z) : Option (dz_Z) := dz_lp (fun (s1 : Int × dz_Z) => if dz_c (s1.2 a1 3 0) ≤ dz_c s1.1 then (some (Sum.inr s1.2)) else (if 0 ≤ dz_c s1.1 ∧ dz_c s1.1 < 5 then if dz_c (s1.2 a2 1 (dz_c s1.1)) = 0 then (Option.bind (jf_F_shareOfLeft c0 (s1.2 a2 0 (dz_c s1.1)) (s1.2 c0 10 (dz_c s1.1)) s1.2) fun q7 => Option.bind (jf_F_lead c0 (s1.2 a1 4 (dz_c s1.1)) q7 s1.2) fun q8 => Option.bind (jf_F_lead c0 (q8 a1 5 (dz_c s1.1)) ((s1.2 c0 10 (dz_c s1.1)) - q7) q8) fun q9 => some (Sum.inl (s1.1 + 1, q9))) else (dz_a (dz_u s1.2 c0 7 0 ((s1.2 c0 7 0) + (s1.2 c0 10 (dz_c s1.1)))) fun Z10 => some (Sum.inl (s1.1 + 1, Z10))) else none)) 5000 (0, Z)
set_option maxRecDepth 20000 in
theorem jw_F_runThroughGutters {X : Option (List Int32)} {D : Nat} {Q : Option Value → mm_H → Prop} (c0 : Nat) (hc0 : hz_isF c0) (a1 : Nat) (ha1 : hz_isP a1) (a2 : Nat) (ha2 : hz_isS a2) (Z : dz_Z) (H : dz_p (jf_F_runThroughGutters c0 a1 a2 Z) (fun q => Q (none) (hz_0 q))) : mm_Wp X (D + 1) mm_r14 0 [some (.ref c0), some (.ref a1), some (.ref a2), none, none, none] [] (hz_0 Z) Q := by
  unfold jf_F_runThroughGutters at H
  refine wp_s (i := .iconst 0) (n := 1) (pc' := 1) (st' := [dz_I 0]) rfl rfl ?_
  refine wq_st (k := 3) (i := .istore_n 3) (n := 1) (ls' := [some (.ref c0), some (.ref a1), some (.ref a2), some (dz_I 0), none, none]) (pc' := 2) rfl rfl rfl rfl rfl ?_
  refine dz_lpi (P := fun (s1 : Int × dz_Z) => ∀ (u2 u3 : Option Int32), mm_Wp X (D + 1) mm_r14 2 [some (.ref c0), some (.ref a1), some (.ref a2), some (dz_I s1.1), Option.map Value.int u2, Option.map Value.int u3] [] (hz_0 s1.2) Q) (fun s1 H => ?_) 5000 (0, Z) H none none
  intro u2 u3
  refine wp_s (i := .iload_n 3) (n := 1) (pc' := 3) (st' := [dz_I s1.1]) rfl rfl ?_
  refine wp_s (i := .aload_n 1) (n := 1) (pc' := 4) (st' := [.ref a1, dz_I s1.1]) rfl rfl ?_
  refine wq_gi (idx := 92) (pc' := 7) rfl rfl (ho_P ha1) rfl rfl ?_
  refine wq_ic (p := dz_c (s1.2 a1 3 0) ≤ dz_c s1.1) (tt := 88) (pc' := 10) rfl rfl (cq_ge rfl rfl) rfl (fun c4 => ?_) (fun c4 => ?_)
  · replace H := dz_it c4 H
    refine wq_rv rfl rfl ?_
    replace H := dz_out H
    replace H := dz_sm H
    exact H
  · replace H := dz_if c4 H
    refine wp_s (i := .aload_n 0) (n := 1) (pc' := 11) (st' := [.ref c0]) rfl rfl ?_
    refine wq_gr (idx := 28) (a := c0 + 6) (pc' := 14) rfl rfl (ho_F hc0) rfl rfl ?_
    refine wp_s (i := .iload_n 3) (n := 1) (pc' := 15) (st' := [dz_I s1.1, .ref (c0 + 6)]) rfl rfl ?_
    obtain ⟨k5, H⟩ := dz_ck H
    refine wq_ia (j' := dz_c s1.1) (pc' := 16) rfl (ha_F_10 hc0) rfl k5.1 k5.2 rfl ?_
    refine wq_st (k := 4) (i := .istore 4) (n := 2) (ls' := [some (.ref c0), some (.ref a1), some (.ref a2), some (dz_I s1.1), some (dz_I (s1.2 c0 10 (dz_c s1.1))), Option.map Value.int u3]) (pc' := 18) rfl rfl rfl rfl rfl ?_
    refine wp_s (i := .aload_n 2) (n := 1) (pc' := 19) (st' := [.ref a2]) rfl rfl ?_
    refine wq_gr (idx := 95) (a := a2 + 2) (pc' := 22) rfl rfl (ho_S ha2) rfl rfl ?_
    refine wp_s (i := .iload_n 3) (n := 1) (pc' := 23) (st' := [dz_I s1.1, .ref (a2 + 2)]) rfl rfl ?_
    refine wq_ia (j' := dz_c s1.1) (pc' := 24) rfl (ha_S_1 ha2) rfl k5.1 k5.2 rfl ?_
    refine wq_if (p := dz_c (s1.2 a2 1 (dz_c s1.1)) = 0) (tt := 41) (pc' := 27) rfl rfl (cz_eq rfl) rfl (fun c6 => ?_) (fun c6 => ?_)
    · replace H := dz_it c6 H
      refine wp_s (i := .aload_n 0) (n := 1) (pc' := 42) (st' := [.ref c0]) rfl rfl ?_
      refine wp_s (i := .aload_n 2) (n := 1) (pc' := 43) (st' := [.ref a2, .ref c0]) rfl rfl ?_
      refine wq_gr (idx := 100) (a := a2 + 1) (pc' := 46) rfl rfl (ho_S ha2) rfl rfl ?_
      refine wp_s (i := .iload_n 3) (n := 1) (pc' := 47) (st' := [dz_I s1.1, .ref (a2 + 1), .ref c0]) rfl rfl ?_
      refine wq_ia (j' := dz_c s1.1) (pc' := 48) rfl (ha_S_0 ha2) rfl k5.1 k5.2 rfl ?_
      refine wp_s (i := .iload 4) (n := 2) (pc' := 50) (st' := [dz_I (s1.2 c0 10 (dz_c s1.1)), dz_I (s1.2 a2 0 (dz_c s1.1)), .ref c0]) rfl rfl ?_
      refine wq_cv (Dq := D) (r' := mm_r15) (as0 := [dz_I (s1.2 a2 0 (dz_c s1.1)), dz_I (s1.2 c0 10 (dz_c s1.1))]) (rest := []) (ls' := [some (.ref c0), some (dz_I (s1.2 a2 0 (dz_c s1.1))), some (dz_I (s1.2 c0 10 (dz_c s1.1))), none]) (pc' := 53) rfl rfl rfl rfl (ho_F hc0) rfl rfl rfl ?_
      refine jw_F_shareOfLeft (X := X) (D := D + 0) c0 hc0 (s1.2 a2 0 (dz_c s1.1)) (s1.2 c0 10 (dz_c s1.1)) s1.2 (dz_pm (dz_bi H) (fun q7 H => ?_))
      show mm_Wp X (D + 1) mm_r14 53 [some (.ref c0), some (.ref a1), some (.ref a2), some (dz_I s1.1), some (dz_I (s1.2 c0 10 (dz_c s1.1))), Option.map Value.int u3] [dz_I q7] (hz_0 s1.2) Q
      refine wq_st (k := 5) (i := .istore 5) (n := 2) (ls' := [some (.ref c0), some (.ref a1), some (.ref a2), some (dz_I s1.1), some (dz_I (s1.2 c0 10 (dz_c s1.1))), some (dz_I q7)]) (pc' := 55) rfl rfl rfl rfl rfl ?_
      refine wp_s (i := .aload_n 0) (n := 1) (pc' := 56) (st' := [.ref c0]) rfl rfl ?_
      refine wp_s (i := .aload_n 1) (n := 1) (pc' := 57) (st' := [.ref a1, .ref c0]) rfl rfl ?_
      refine wq_gr (idx := 107) (a := a1 + 3) (pc' := 60) rfl rfl (ho_P ha1) rfl rfl ?_
      refine wp_s (i := .iload_n 3) (n := 1) (pc' := 61) (st' := [dz_I s1.1, .ref (a1 + 3), .ref c0]) rfl rfl ?_
      refine wq_ia (j' := dz_c s1.1) (pc' := 62) rfl (ha_P_4 ha1) rfl k5.1 k5.2 rfl ?_
      refine wp_s (i := .iload 5) (n := 2) (pc' := 64) (st' := [dz_I q7, dz_I (s1.2 a1 4 (dz_c s1.1)), .ref c0]) rfl rfl ?_
      refine wq_cv (Dq := D) (r' := mm_r16) (as0 := [dz_I (s1.2 a1 4 (dz_c s1.1)), dz_I q7]) (rest := []) (ls' := [some (.ref c0), some (dz_I (s1.2 a1 4 (dz_c s1.1))), some (dz_I q7)]) (pc' := 67) rfl rfl rfl rfl (ho_F hc0) rfl rfl rfl ?_
      refine jw_F_lead (X := X) (D := D + 0) c0 hc0 (s1.2 a1 4 (dz_c s1.1)) q7 s1.2 (dz_pm (dz_bi H) (fun q8 H => ?_))
      show mm_Wp X (D + 1) mm_r14 67 [some (.ref c0), some (.ref a1), some (.ref a2), some (dz_I s1.1), some (dz_I (s1.2 c0 10 (dz_c s1.1))), some (dz_I q7)] [] (hz_0 q8) Q
      refine wp_s (i := .aload_n 0) (n := 1) (pc' := 68) (st' := [.ref c0]) rfl rfl ?_
      refine wp_s (i := .aload_n 1) (n := 1) (pc' := 69) (st' := [.ref a1, .ref c0]) rfl rfl ?_
      refine wq_gr (idx := 110) (a := a1 + 4) (pc' := 72) rfl rfl (ho_P ha1) rfl rfl ?_
      refine wp_s (i := .iload_n 3) (n := 1) (pc' := 73) (st' := [dz_I s1.1, .ref (a1 + 4), .ref c0]) rfl rfl ?_
      refine wq_ia (j' := dz_c s1.1) (pc' := 74) rfl (ha_P_5 ha1) rfl k5.1 k5.2 rfl ?_
      refine wp_s (i := .iload 4) (n := 2) (pc' := 76) (st' := [dz_I (s1.2 c0 10 (dz_c s1.1)), dz_I (q8 a1 5 (dz_c s1.1)), .ref c0]) rfl rfl ?_
      refine wp_s (i := .iload 5) (n := 2) (pc' := 78) (st' := [dz_I q7, dz_I (s1.2 c0 10 (dz_c s1.1)), dz_I (q8 a1 5 (dz_c s1.1)), .ref c0]) rfl rfl ?_
      refine wq_2 (i := .isub) (z := (s1.2 c0 10 (dz_c s1.1)) - q7) (pc' := 79) rfl rfl (op_sub _ _) rfl ?_
      refine wq_cv (Dq := D) (r' := mm_r16) (as0 := [dz_I (q8 a1 5 (dz_c s1.1)), dz_I ((s1.2 c0 10 (dz_c s1.1)) - q7)]) (rest := []) (ls' := [some (.ref c0), some (dz_I (q8 a1 5 (dz_c s1.1))), some (dz_I ((s1.2 c0 10 (dz_c s1.1)) - q7))]) (pc' := 82) rfl rfl rfl rfl (ho_F hc0) rfl rfl rfl ?_
      refine jw_F_lead (X := X) (D := D + 0) c0 hc0 (q8 a1 5 (dz_c s1.1)) ((s1.2 c0 10 (dz_c s1.1)) - q7) q8 (dz_pm (dz_bi H) (fun q9 H => ?_))
      show mm_Wp X (D + 1) mm_r14 82 [some (.ref c0), some (.ref a1), some (.ref a2), some (dz_I s1.1), some (dz_I (s1.2 c0 10 (dz_c s1.1))), some (dz_I q7)] [] (hz_0 q9) Q
      refine wq_inc (k := 3) (d := 1) (x := s1.1) (ls' := [some (.ref c0), some (.ref a1), some (.ref a2), some (dz_I (s1.1 + 1)), some (dz_I (s1.2 c0 10 (dz_c s1.1))), some (dz_I q7)]) (pc' := 85) rfl rfl rfl rfl ?_
      refine wp_s (i := .goto (-83)) (n := 3) (pc' := 2) (st' := []) rfl rfl ?_
      replace H := dz_back H
      exact H (some (Int32.ofInt (s1.2 c0 10 (dz_c s1.1)))) (some (Int32.ofInt q7))
    · replace H := dz_if c6 H
      refine wp_s (i := .aload_n 0) (n := 1) (pc' := 28) (st' := [.ref c0]) rfl rfl ?_
      refine wp_s (i := .dup) (n := 1) (pc' := 29) (st' := [.ref c0, .ref c0]) rfl rfl ?_
      refine wq_gi (idx := 50) (pc' := 32) rfl rfl (ho_F hc0) rfl rfl ?_
      refine wp_s (i := .iload 4) (n := 2) (pc' := 34) (st' := [dz_I (s1.2 c0 10 (dz_c s1.1)), dz_I (s1.2 c0 7 0), .ref c0]) rfl rfl ?_
      refine wq_2 (i := .iadd) (z := (s1.2 c0 7 0) + (s1.2 c0 10 (dz_c s1.1))) (pc' := 35) rfl rfl (op_add _ _) rfl ?_
      refine wq_pi (idx := 50) (x := (s1.2 c0 7 0) + (s1.2 c0 10 (dz_c s1.1))) (pc' := 38) rfl rfl rfl (ho_F hc0) rfl rfl rfl rfl (fun Z10 eZ10 => ?_)
      replace H := dz_le H Z10 eZ10
      clear eZ10
      refine wp_s (i := .goto 44) (n := 3) (pc' := 82) (st' := []) rfl rfl ?_
      refine wq_inc (k := 3) (d := 1) (x := s1.1) (ls' := [some (.ref c0), some (.ref a1), some (.ref a2), some (dz_I (s1.1 + 1)), some (dz_I (s1.2 c0 10 (dz_c s1.1))), Option.map Value.int u3]) (pc' := 85) rfl rfl rfl rfl ?_
      refine wp_s (i := .goto (-83)) (n := 3) (pc' := 2) (st' := []) rfl rfl ?_
      replace H := dz_back H
      exact H (some (Int32.ofInt (s1.2 c0 10 (dz_c s1.1)))) u3
-- 23
def jf_F_isBroken (c0 : Nat) (a1 : Nat) (a2 : Int) (Z : dz_Z) : Option (Bool) := if dz_c (Z a1 15 0) ≤ 0 then (some false) else (if 0 ≤ dz_c a2 ∧ dz_c a2 < 8 then if dz_l (Z c0 2 (dz_c a2)) < dz_c (Z a1 15 0) then (some false) else (some true) else none)
set_option maxRecDepth 20000 in
theorem jw_F_isBroken {X : Option (List Int32)} {D : Nat} {Q : Option Value → mm_H → Prop} (c0 : Nat) (hc0 : hz_isF c0) (a1 : Nat) (ha1 : hz_isP a1) (a2 : Int) (Z : dz_Z) (H : dz_p (jf_F_isBroken c0 a1 a2 Z) (fun q => Q (some (dz_B q)) (hz_0 Z))) : mm_Wp X D mm_r23 0 [some (.ref c0), some (.ref a1), some (dz_I a2)] [] (hz_0 Z) Q := by
  unfold jf_F_isBroken at H
  refine wp_s (i := .aload_n 1) (n := 1) (pc' := 1) (st' := [.ref a1]) rfl rfl ?_
  refine wq_gi (idx := 147) (pc' := 4) rfl rfl (ho_P ha1) rfl rfl ?_
  refine wq_if (p := dz_c (Z a1 15 0) ≤ 0) (tt := 26) (pc' := 7) rfl rfl (cz_le rfl) rfl (fun c1 => ?_) (fun c1 => ?_)
  · replace H := dz_it c1 H
    refine wp_s (i := .iconst 0) (n := 1) (pc' := 27) (st' := [dz_I 0]) rfl rfl ?_
    refine wq_rf rfl rfl ?_
    replace H := dz_sm H
    exact H
  · replace H := dz_if c1 H
    refine wp_s (i := .aload_n 0) (n := 1) (pc' := 8) (st' := [.ref c0]) rfl rfl ?_
    refine wq_gr (idx := 18) (a := c0 + 3) (pc' := 11) rfl rfl (ho_F hc0) rfl rfl ?_
    refine wp_s (i := .iload_n 2) (n := 1) (pc' := 12) (st' := [dz_I a2, .ref (c0 + 3)]) rfl rfl ?_
    obtain ⟨k2, H⟩ := dz_ck H
    refine wq_la (j' := dz_c a2) (pc' := 13) rfl (ha_F_2 hc0) rfl k2.1 k2.2 rfl ?_
    refine wp_s (i := .aload_n 1) (n := 1) (pc' := 14) (st' := [.ref a1, dz_J (Z c0 2 (dz_c a2))]) rfl rfl ?_
    refine wq_gi (idx := 147) (pc' := 17) rfl rfl (ho_P ha1) rfl rfl ?_
    refine wq_3 (i := .i2l) (v' := dz_J (dz_c (Z a1 15 0))) (pc' := 18) rfl rfl (oq_i2l' rfl) rfl ?_
    refine wp_s (i := .lcmp) (n := 1) (pc' := 19) (st' := [.int (lg_cmp (Int64.ofInt (Z c0 2 (dz_c a2))) (Int64.ofInt (dz_c (Z a1 15 0))))]) rfl rfl ?_
    refine wq_if (p := dz_l (Z c0 2 (dz_c a2)) < dz_c (Z a1 15 0)) (tt := 26) (pc' := 22) rfl rfl (cl_lt rfl (dz_lc _)) rfl (fun c3 => ?_) (fun c3 => ?_)
    · replace H := dz_it c3 H
      refine wp_s (i := .iconst 0) (n := 1) (pc' := 27) (st' := [dz_I 0]) rfl rfl ?_
      refine wq_rf rfl rfl ?_
      replace H := dz_sm H
      exact H
    · replace H := dz_if c3 H
      refine wp_s (i := .iconst 1) (n := 1) (pc' := 23) (st' := [dz_I 1]) rfl rfl ?_
      refine wp_s (i := .goto 4) (n := 3) (pc' := 27) (st' := [dz_I 1]) rfl rfl ?_
      refine wq_rt rfl rfl ?_
      replace H := dz_sm H
      exact H
-- 19
def jf_F_tip (c0 : Nat) (a1 : Int) (a2 : Int) (a3 : Int) (a4 : Int) (Z : dz_Z) : Option (Int × dz_Z) := if 0 ≤ dz_c a1 ∧ dz_c a1 < 8 then dz_a (dz_u Z c0 0 (dz_c a1) ((Z c0 0 (dz_c a1)) + a3)) fun Z2 => Option.bind (α := Int) (if dz_c a2 ≤ 0 then (some 0) else (if dz_c a2 ≠ 0 then some (Int.tdiv (dz_c (Z2 c0 0 (dz_c a1))) (dz_c a2)) else none)) (fun (q5 : Int) => dz_a (dz_u Z2 c0 0 (dz_c a1) ((Z2 c0 0 (dz_c a1)) - (q5 * a2))) fun Z6 => if dz_c a4 < 0 then (dz_a (dz_u Z6 c0 7 0 ((Z6 c0 7 0) + (q5 * a2))) fun Z8 => some (q5, Z8)) else (if 8 ≤ dz_c a4 then (dz_a (dz_u Z6 c0 7 0 ((Z6 c0 7 0) + (q5 * a2))) fun Z10 => some (q5, Z10)) else (if 0 ≤ dz_c a4 ∧ dz_c a4 < 8 then dz_a (dz_u Z6 c0 3 (dz_c a4) ((Z6 c0 3 (dz_c a4)) + (q5 * a2))) fun Z12 => some (q5, Z12) else none))) else none
set_option maxRecDepth 20000 in
theorem jw_F_tip {X : Option (List Int32)} {D : Nat} {Q : Option Value → mm_H → Prop} (c0 : Nat) (hc0 : hz_isF c0) (a1 : Int) (a2 : Int) (a3 : Int) (a4 : Int) (Z : dz_Z) (H : dz_p (jf_F_tip c0 a1 a2 a3 a4 Z) (fun q => Q (some (dz_I q.1)) (hz_0 q.2))) : mm_Wp X D mm_r19 0 [some (.ref c0), some (dz_I a1), some (dz_I a2), some (dz_I a3), some (dz_I a4), none, none] [] (hz_0 Z) Q := by
  unfold jf_F_tip at H
  refine wp_s (i := .aload_n 0) (n := 1) (pc' := 1) (st' := [.ref c0]) rfl rfl ?_
  refine wq_gr (idx := 9) (a := c0 + 1) (pc' := 4) rfl rfl (ho_F hc0) rfl rfl ?_
  refine wp_s (i := .iload_n 1) (n := 1) (pc' := 5) (st' := [dz_I a1, .ref (c0 + 1)]) rfl rfl ?_
  refine wp_s (i := .dup2) (n := 1) (pc' := 6) (st' := [dz_I a1, .ref (c0 + 1), dz_I a1, .ref (c0 + 1)]) rfl rfl ?_
  obtain ⟨k1, H⟩ := dz_ck H
  refine wq_ia (j' := dz_c a1) (pc' := 7) rfl (ha_F_0 hc0) rfl k1.1 k1.2 rfl ?_
  refine wp_s (i := .iload_n 3) (n := 1) (pc' := 8) (st' := [dz_I a3, dz_I (Z c0 0 (dz_c a1)), dz_I a1, .ref (c0 + 1)]) rfl rfl ?_
  refine wq_2 (i := .iadd) (z := (Z c0 0 (dz_c a1)) + a3) (pc' := 9) rfl rfl (op_add _ _) rfl ?_
  refine wq_is (j' := dz_c a1) (x := (Z c0 0 (dz_c a1)) + a3) (pc' := 10) rfl (ha_F_0 hc0) rfl k1.1 k1.2 rfl (fun Z2 eZ2 => ?_)
  replace H := dz_le H Z2 eZ2
  clear eZ2
  refine wp_s (i := .iload_n 2) (n := 1) (pc' := 11) (st' := [dz_I a2]) rfl rfl ?_
  refine dz_jn (P := fun (q5 : Int) => mm_Wp X D mm_r19 26 [some (.ref c0), some (dz_I a1), some (dz_I a2), some (dz_I a3), some (dz_I a4), none, none] [dz_I q5] (hz_0 Z2) Q) (dz_bi H) (fun q5 H => ?_) (fun H => ?_)
  · skip
    refine wq_st (k := 5) (i := .istore 5) (n := 2) (ls' := [some (.ref c0), some (dz_I a1), some (dz_I a2), some (dz_I a3), some (dz_I a4), some (dz_I q5), none]) (pc' := 28) rfl rfl rfl rfl rfl ?_
    refine wp_s (i := .iload 5) (n := 2) (pc' := 30) (st' := [dz_I q5]) rfl rfl ?_
    refine wp_s (i := .iload_n 2) (n := 1) (pc' := 31) (st' := [dz_I a2, dz_I q5]) rfl rfl ?_
    refine wq_2 (i := .imul) (z := q5 * a2) (pc' := 32) rfl rfl (op_mul _ _) rfl ?_
    refine wq_st (k := 6) (i := .istore 6) (n := 2) (ls' := [some (.ref c0), some (dz_I a1), some (dz_I a2), some (dz_I a3), some (dz_I a4), some (dz_I q5), some (dz_I (q5 * a2))]) (pc' := 34) rfl rfl rfl rfl rfl ?_
    refine wp_s (i := .aload_n 0) (n := 1) (pc' := 35) (st' := [.ref c0]) rfl rfl ?_
    refine wq_gr (idx := 9) (a := c0 + 1) (pc' := 38) rfl rfl (ho_F hc0) rfl rfl ?_
    refine wp_s (i := .iload_n 1) (n := 1) (pc' := 39) (st' := [dz_I a1, .ref (c0 + 1)]) rfl rfl ?_
    refine wp_s (i := .dup2) (n := 1) (pc' := 40) (st' := [dz_I a1, .ref (c0 + 1), dz_I a1, .ref (c0 + 1)]) rfl rfl ?_
    refine wq_ia (j' := dz_c a1) (pc' := 41) rfl (ha_F_0 hc0) rfl k1.1 k1.2 rfl ?_
    refine wp_s (i := .iload 6) (n := 2) (pc' := 43) (st' := [dz_I (q5 * a2), dz_I (Z2 c0 0 (dz_c a1)), dz_I a1, .ref (c0 + 1)]) rfl rfl ?_
    refine wq_2 (i := .isub) (z := (Z2 c0 0 (dz_c a1)) - (q5 * a2)) (pc' := 44) rfl rfl (op_sub _ _) rfl ?_
    refine wq_is (j' := dz_c a1) (x := (Z2 c0 0 (dz_c a1)) - (q5 * a2)) (pc' := 45) rfl (ha_F_0 hc0) rfl k1.1 k1.2 rfl (fun Z6 eZ6 => ?_)
    replace H := dz_le H Z6 eZ6
    clear eZ6
    refine wp_s (i := .iload 4) (n := 2) (pc' := 47) (st' := [dz_I a4]) rfl rfl ?_
    refine wq_if (p := dz_c a4 < 0) (tt := 72) (pc' := 50) rfl rfl (cz_lt rfl) rfl (fun c7 => ?_) (fun c7 => ?_)
    · replace H := dz_it c7 H
      refine wp_s (i := .aload_n 0) (n := 1) (pc' := 73) (st' := [.ref c0]) rfl rfl ?_
      refine wp_s (i := .dup) (n := 1) (pc' := 74) (st' := [.ref c0, .ref c0]) rfl rfl ?_
      refine wq_gi (idx := 50) (pc' := 77) rfl rfl (ho_F hc0) rfl rfl ?_
      refine wp_s (i := .iload 6) (n := 2) (pc' := 79) (st' := [dz_I (q5 * a2), dz_I (Z6 c0 7 0), .ref c0]) rfl rfl ?_
      refine wq_2 (i := .iadd) (z := (Z6 c0 7 0) + (q5 * a2)) (pc' := 80) rfl rfl (op_add _ _) rfl ?_
      refine wq_pi (idx := 50) (x := (Z6 c0 7 0) + (q5 * a2)) (pc' := 83) rfl rfl rfl (ho_F hc0) rfl rfl rfl rfl (fun Z8 eZ8 => ?_)
      replace H := dz_le H Z8 eZ8
      clear eZ8
      refine wp_s (i := .iload 5) (n := 2) (pc' := 85) (st' := [dz_I q5]) rfl rfl ?_
      refine wq_ri rfl rfl ?_
      replace H := dz_sm H
      exact H
    · replace H := dz_if c7 H
      refine wp_s (i := .iload 4) (n := 2) (pc' := 52) (st' := [dz_I a4]) rfl rfl ?_
      refine wp_s (i := .bipush 8) (n := 2) (pc' := 54) (st' := [dz_I 8, dz_I a4]) rfl rfl ?_
      refine wq_ic (p := 8 ≤ dz_c a4) (tt := 72) (pc' := 57) rfl rfl (cq_ge rfl dk_8) rfl (fun c9 => ?_) (fun c9 => ?_)
      · replace H := dz_it c9 H
        refine wp_s (i := .aload_n 0) (n := 1) (pc' := 73) (st' := [.ref c0]) rfl rfl ?_
        refine wp_s (i := .dup) (n := 1) (pc' := 74) (st' := [.ref c0, .ref c0]) rfl rfl ?_
        refine wq_gi (idx := 50) (pc' := 77) rfl rfl (ho_F hc0) rfl rfl ?_
        refine wp_s (i := .iload 6) (n := 2) (pc' := 79) (st' := [dz_I (q5 * a2), dz_I (Z6 c0 7 0), .ref c0]) rfl rfl ?_
        refine wq_2 (i := .iadd) (z := (Z6 c0 7 0) + (q5 * a2)) (pc' := 80) rfl rfl (op_add _ _) rfl ?_
        refine wq_pi (idx := 50) (x := (Z6 c0 7 0) + (q5 * a2)) (pc' := 83) rfl rfl rfl (ho_F hc0) rfl rfl rfl rfl (fun Z10 eZ10 => ?_)
        replace H := dz_le H Z10 eZ10
        clear eZ10
        refine wp_s (i := .iload 5) (n := 2) (pc' := 85) (st' := [dz_I q5]) rfl rfl ?_
        refine wq_ri rfl rfl ?_
        replace H := dz_sm H
        exact H
      · replace H := dz_if c9 H
        refine wp_s (i := .aload_n 0) (n := 1) (pc' := 58) (st' := [.ref c0]) rfl rfl ?_
        refine wq_gr (idx := 22) (a := c0 + 4) (pc' := 61) rfl rfl (ho_F hc0) rfl rfl ?_
        refine wp_s (i := .iload 4) (n := 2) (pc' := 63) (st' := [dz_I a4, .ref (c0 + 4)]) rfl rfl ?_
        refine wp_s (i := .dup2) (n := 1) (pc' := 64) (st' := [dz_I a4, .ref (c0 + 4), dz_I a4, .ref (c0 + 4)]) rfl rfl ?_
        obtain ⟨k11, H⟩ := dz_ck H
        refine wq_ia (j' := dz_c a4) (pc' := 65) rfl (ha_F_3 hc0) rfl k11.1 k11.2 rfl ?_
        refine wp_s (i := .iload 6) (n := 2) (pc' := 67) (st' := [dz_I (q5 * a2), dz_I (Z6 c0 3 (dz_c a4)), dz_I a4, .ref (c0 + 4)]) rfl rfl ?_
        refine wq_2 (i := .iadd) (z := (Z6 c0 3 (dz_c a4)) + (q5 * a2)) (pc' := 68) rfl rfl (op_add _ _) rfl ?_
        refine wq_is (j' := dz_c a4) (x := (Z6 c0 3 (dz_c a4)) + (q5 * a2)) (pc' := 69) rfl (ha_F_3 hc0) rfl k11.1 k11.2 rfl (fun Z12 eZ12 => ?_)
        replace H := dz_le H Z12 eZ12
        clear eZ12
        refine wp_s (i := .goto 14) (n := 3) (pc' := 83) (st' := []) rfl rfl ?_
        refine wp_s (i := .iload 5) (n := 2) (pc' := 85) (st' := [dz_I q5]) rfl rfl ?_
        refine wq_ri rfl rfl ?_
        replace H := dz_sm H
        exact H
  · skip
    refine wq_if (p := dz_c a2 ≤ 0) (tt := 25) (pc' := 14) rfl rfl (cz_le rfl) rfl (fun c13 => ?_) (fun c13 => ?_)
    · replace H := dz_it c13 H
      refine wp_s (i := .iconst 0) (n := 1) (pc' := 26) (st' := [dz_I 0]) rfl rfl ?_
      replace H := dz_sm H
      exact H
    · replace H := dz_if c13 H
      refine wp_s (i := .aload_n 0) (n := 1) (pc' := 15) (st' := [.ref c0]) rfl rfl ?_
      refine wq_gr (idx := 9) (a := c0 + 1) (pc' := 18) rfl rfl (ho_F hc0) rfl rfl ?_
      refine wp_s (i := .iload_n 1) (n := 1) (pc' := 19) (st' := [dz_I a1, .ref (c0 + 1)]) rfl rfl ?_
      refine wq_ia (j' := dz_c a1) (pc' := 20) rfl (ha_F_0 hc0) rfl k1.1 k1.2 rfl ?_
      refine wp_s (i := .iload_n 2) (n := 1) (pc' := 21) (st' := [dz_I a2, dz_I (Z2 c0 0 (dz_c a1))]) rfl rfl ?_
      obtain ⟨k14, H⟩ := dz_ck H
      refine wq_2 (i := .idiv) (z := Int.tdiv (dz_c (Z2 c0 0 (dz_c a1))) (dz_c a2)) (pc' := 22) rfl rfl (op_div rfl rfl k14) rfl ?_
      refine wp_s (i := .goto 4) (n := 3) (pc' := 26) (st' := [dz_I (Int.tdiv (dz_c (Z2 c0 0 (dz_c a1))) (dz_c a2))]) rfl rfl ?_
      replace H := dz_sm H
      exact H
-- 20
def jf_F_leak (c0 : Nat) (a1 : Int) (a2 : Int) (a3 : Int) (Z : dz_Z) : Option (Int × dz_Z) := if 0 ≤ dz_c a1 ∧ dz_c a1 < 8 then dz_a (dz_u Z c0 0 (dz_c a1) ((Z c0 0 (dz_c a1)) + a3)) fun Z2 => if dz_c (Z2 c0 0 (dz_c a1)) < dz_c a2 then (if dz_c (Z2 c0 0 (dz_c a1)) ≤ 0 then (some (0, Z2)) else (dz_a (dz_u Z2 c0 7 0 ((Z2 c0 7 0) + 1)) fun Z5 => dz_a (dz_u Z5 c0 0 (dz_c a1) ((Z5 c0 0 (dz_c a1)) - 1)) fun Z6 => some (0, Z6))) else (dz_a (dz_u Z2 c0 7 0 ((Z2 c0 7 0) + (Z2 c0 0 (dz_c a1)))) fun Z7 => dz_a (dz_u Z7 c0 0 (dz_c a1) 0) fun Z8 => some (1, Z8)) else none
set_option maxRecDepth 20000 in
theorem jw_F_leak {X : Option (List Int32)} {D : Nat} {Q : Option Value → mm_H → Prop} (c0 : Nat) (hc0 : hz_isF c0) (a1 : Int) (a2 : Int) (a3 : Int) (Z : dz_Z) (H : dz_p (jf_F_leak c0 a1 a2 a3 Z) (fun q => Q (some (dz_I q.1)) (hz_0 q.2))) : mm_Wp X D mm_r20 0 [some (.ref c0), some (dz_I a1), some (dz_I a2), some (dz_I a3)] [] (hz_0 Z) Q := by
  unfold jf_F_leak at H
  refine wp_s (i := .aload_n 0) (n := 1) (pc' := 1) (st' := [.ref c0]) rfl rfl ?_
  refine wq_gr (idx := 9) (a := c0 + 1) (pc' := 4) rfl rfl (ho_F hc0) rfl rfl ?_
  refine wp_s (i := .iload_n 1) (n := 1) (pc' := 5) (st' := [dz_I a1, .ref (c0 + 1)]) rfl rfl ?_
  refine wp_s (i := .dup2) (n := 1) (pc' := 6) (st' := [dz_I a1, .ref (c0 + 1), dz_I a1, .ref (c0 + 1)]) rfl rfl ?_
  obtain ⟨k1, H⟩ := dz_ck H
  refine wq_ia (j' := dz_c a1) (pc' := 7) rfl (ha_F_0 hc0) rfl k1.1 k1.2 rfl ?_
  refine wp_s (i := .iload_n 3) (n := 1) (pc' := 8) (st' := [dz_I a3, dz_I (Z c0 0 (dz_c a1)), dz_I a1, .ref (c0 + 1)]) rfl rfl ?_
  refine wq_2 (i := .iadd) (z := (Z c0 0 (dz_c a1)) + a3) (pc' := 9) rfl rfl (op_add _ _) rfl ?_
  refine wq_is (j' := dz_c a1) (x := (Z c0 0 (dz_c a1)) + a3) (pc' := 10) rfl (ha_F_0 hc0) rfl k1.1 k1.2 rfl (fun Z2 eZ2 => ?_)
  replace H := dz_le H Z2 eZ2
  clear eZ2
  refine wp_s (i := .aload_n 0) (n := 1) (pc' := 11) (st' := [.ref c0]) rfl rfl ?_
  refine wq_gr (idx := 9) (a := c0 + 1) (pc' := 14) rfl rfl (ho_F hc0) rfl rfl ?_
  refine wp_s (i := .iload_n 1) (n := 1) (pc' := 15) (st' := [dz_I a1, .ref (c0 + 1)]) rfl rfl ?_
  refine wq_ia (j' := dz_c a1) (pc' := 16) rfl (ha_F_0 hc0) rfl k1.1 k1.2 rfl ?_
  refine wp_s (i := .iload_n 2) (n := 1) (pc' := 17) (st' := [dz_I a2, dz_I (Z2 c0 0 (dz_c a1))]) rfl rfl ?_
  refine wq_ic (p := dz_c (Z2 c0 0 (dz_c a1)) < dz_c a2) (tt := 44) (pc' := 20) rfl rfl (cq_lt rfl rfl) rfl (fun c3 => ?_) (fun c3 => ?_)
  · replace H := dz_it c3 H
    refine wp_s (i := .aload_n 0) (n := 1) (pc' := 45) (st' := [.ref c0]) rfl rfl ?_
    refine wq_gr (idx := 9) (a := c0 + 1) (pc' := 48) rfl rfl (ho_F hc0) rfl rfl ?_
    refine wp_s (i := .iload_n 1) (n := 1) (pc' := 49) (st' := [dz_I a1, .ref (c0 + 1)]) rfl rfl ?_
    refine wq_ia (j' := dz_c a1) (pc' := 50) rfl (ha_F_0 hc0) rfl k1.1 k1.2 rfl ?_
    refine wq_if (p := dz_c (Z2 c0 0 (dz_c a1)) ≤ 0) (tt := 73) (pc' := 53) rfl rfl (cz_le rfl) rfl (fun c4 => ?_) (fun c4 => ?_)
    · replace H := dz_it c4 H
      refine wp_s (i := .iconst 0) (n := 1) (pc' := 74) (st' := [dz_I 0]) rfl rfl ?_
      refine wq_ri rfl rfl ?_
      replace H := dz_sm H
      exact H
    · replace H := dz_if c4 H
      refine wp_s (i := .aload_n 0) (n := 1) (pc' := 54) (st' := [.ref c0]) rfl rfl ?_
      refine wp_s (i := .dup) (n := 1) (pc' := 55) (st' := [.ref c0, .ref c0]) rfl rfl ?_
      refine wq_gi (idx := 50) (pc' := 58) rfl rfl (ho_F hc0) rfl rfl ?_
      refine wp_s (i := .iconst 1) (n := 1) (pc' := 59) (st' := [dz_I 1, dz_I (Z2 c0 7 0), .ref c0]) rfl rfl ?_
      refine wq_2 (i := .iadd) (z := (Z2 c0 7 0) + 1) (pc' := 60) rfl rfl (op_add _ _) rfl ?_
      refine wq_pi (idx := 50) (x := (Z2 c0 7 0) + 1) (pc' := 63) rfl rfl rfl (ho_F hc0) rfl rfl rfl rfl (fun Z5 eZ5 => ?_)
      replace H := dz_le H Z5 eZ5
      clear eZ5
      refine wp_s (i := .aload_n 0) (n := 1) (pc' := 64) (st' := [.ref c0]) rfl rfl ?_
      refine wq_gr (idx := 9) (a := c0 + 1) (pc' := 67) rfl rfl (ho_F hc0) rfl rfl ?_
      refine wp_s (i := .iload_n 1) (n := 1) (pc' := 68) (st' := [dz_I a1, .ref (c0 + 1)]) rfl rfl ?_
      refine wp_s (i := .dup2) (n := 1) (pc' := 69) (st' := [dz_I a1, .ref (c0 + 1), dz_I a1, .ref (c0 + 1)]) rfl rfl ?_
      refine wq_ia (j' := dz_c a1) (pc' := 70) rfl (ha_F_0 hc0) rfl k1.1 k1.2 rfl ?_
      refine wp_s (i := .iconst 1) (n := 1) (pc' := 71) (st' := [dz_I 1, dz_I (Z5 c0 0 (dz_c a1)), dz_I a1, .ref (c0 + 1)]) rfl rfl ?_
      refine wq_2 (i := .isub) (z := (Z5 c0 0 (dz_c a1)) - 1) (pc' := 72) rfl rfl (op_sub _ _) rfl ?_
      refine wq_is (j' := dz_c a1) (x := (Z5 c0 0 (dz_c a1)) - 1) (pc' := 73) rfl (ha_F_0 hc0) rfl k1.1 k1.2 rfl (fun Z6 eZ6 => ?_)
      replace H := dz_le H Z6 eZ6
      clear eZ6
      refine wp_s (i := .iconst 0) (n := 1) (pc' := 74) (st' := [dz_I 0]) rfl rfl ?_
      refine wq_ri rfl rfl ?_
      replace H := dz_sm H
      exact H
  · replace H := dz_if c3 H
    refine wp_s (i := .aload_n 0) (n := 1) (pc' := 21) (st' := [.ref c0]) rfl rfl ?_
    refine wp_s (i := .dup) (n := 1) (pc' := 22) (st' := [.ref c0, .ref c0]) rfl rfl ?_
    refine wq_gi (idx := 50) (pc' := 25) rfl rfl (ho_F hc0) rfl rfl ?_
    refine wp_s (i := .aload_n 0) (n := 1) (pc' := 26) (st' := [.ref c0, dz_I (Z2 c0 7 0), .ref c0]) rfl rfl ?_
    refine wq_gr (idx := 9) (a := c0 + 1) (pc' := 29) rfl rfl (ho_F hc0) rfl rfl ?_
    refine wp_s (i := .iload_n 1) (n := 1) (pc' := 30) (st' := [dz_I a1, .ref (c0 + 1), dz_I (Z2 c0 7 0), .ref c0]) rfl rfl ?_
    refine wq_ia (j' := dz_c a1) (pc' := 31) rfl (ha_F_0 hc0) rfl k1.1 k1.2 rfl ?_
    refine wq_2 (i := .iadd) (z := (Z2 c0 7 0) + (Z2 c0 0 (dz_c a1))) (pc' := 32) rfl rfl (op_add _ _) rfl ?_
    refine wq_pi (idx := 50) (x := (Z2 c0 7 0) + (Z2 c0 0 (dz_c a1))) (pc' := 35) rfl rfl rfl (ho_F hc0) rfl rfl rfl rfl (fun Z7 eZ7 => ?_)
    replace H := dz_le H Z7 eZ7
    clear eZ7
    refine wp_s (i := .aload_n 0) (n := 1) (pc' := 36) (st' := [.ref c0]) rfl rfl ?_
    refine wq_gr (idx := 9) (a := c0 + 1) (pc' := 39) rfl rfl (ho_F hc0) rfl rfl ?_
    refine wp_s (i := .iload_n 1) (n := 1) (pc' := 40) (st' := [dz_I a1, .ref (c0 + 1)]) rfl rfl ?_
    refine wp_s (i := .iconst 0) (n := 1) (pc' := 41) (st' := [dz_I 0, dz_I a1, .ref (c0 + 1)]) rfl rfl ?_
    refine wq_is (j' := dz_c a1) (x := 0) (pc' := 42) rfl (ha_F_0 hc0) rfl k1.1 k1.2 rfl (fun Z8 eZ8 => ?_)
    replace H := dz_le H Z8 eZ8
    clear eZ8
    refine wp_s (i := .iconst 1) (n := 1) (pc' := 43) (st' := [dz_I 1]) rfl rfl ?_
    refine wq_ri rfl rfl ?_
    replace H := dz_sm H
    exact H
-- 21
def jf_F_countEach (c0 : Nat) (a1 : Int) (a2 : Int) (a3 : Int) (Z : dz_Z) : Option (Int × dz_Z) := dz_a (dz_u Z c0 7 0 ((Z c0 7 0) + a3)) fun Z1 => if 0 ≤ dz_c a1 ∧ dz_c a1 < 8 then dz_a (dz_u Z1 c0 1 (dz_c a1) ((Z1 c0 1 (dz_c a1)) + a3)) fun Z3 => Option.bind (α := Int) (if dz_c a2 ≤ 0 then (some 0) else (if dz_c a2 ≠ 0 then some (Int.tdiv (dz_c (Z3 c0 1 (dz_c a1))) (dz_c a2)) else none)) (fun (q6 : Int) => dz_a (dz_u Z3 c0 1 (dz_c a1) ((Z3 c0 1 (dz_c a1)) - (q6 * a2))) fun Z7 => some (q6, Z7)) else none
set_option maxRecDepth 20000 in
theorem jw_F_countEach {X : Option (List Int32)} {D : Nat} {Q : Option Value → mm_H → Prop} (c0 : Nat) (hc0 : hz_isF c0) (a1 : Int) (a2 : Int) (a3 : Int) (Z : dz_Z) (H : dz_p (jf_F_countEach c0 a1 a2 a3 Z) (fun q => Q (some (dz_I q.1)) (hz_0 q.2))) : mm_Wp X D mm_r21 0 [some (.ref c0), some (dz_I a1), some (dz_I a2), some (dz_I a3), none] [] (hz_0 Z) Q := by
  unfold jf_F_countEach at H
  refine wp_s (i := .aload_n 0) (n := 1) (pc' := 1) (st' := [.ref c0]) rfl rfl ?_
  refine wp_s (i := .dup) (n := 1) (pc' := 2) (st' := [.ref c0, .ref c0]) rfl rfl ?_
  refine wq_gi (idx := 50) (pc' := 5) rfl rfl (ho_F hc0) rfl rfl ?_
  refine wp_s (i := .iload_n 3) (n := 1) (pc' := 6) (st' := [dz_I a3, dz_I (Z c0 7 0), .ref c0]) rfl rfl ?_
  refine wq_2 (i := .iadd) (z := (Z c0 7 0) + a3) (pc' := 7) rfl rfl (op_add _ _) rfl ?_
  refine wq_pi (idx := 50) (x := (Z c0 7 0) + a3) (pc' := 10) rfl rfl rfl (ho_F hc0) rfl rfl rfl rfl (fun Z1 eZ1 => ?_)
  replace H := dz_le H Z1 eZ1
  clear eZ1
  refine wp_s (i := .aload_n 0) (n := 1) (pc' := 11) (st' := [.ref c0]) rfl rfl ?_
  refine wq_gr (idx := 15) (a := c0 + 2) (pc' := 14) rfl rfl (ho_F hc0) rfl rfl ?_
  refine wp_s (i := .iload_n 1) (n := 1) (pc' := 15) (st' := [dz_I a1, .ref (c0 + 2)]) rfl rfl ?_
  refine wp_s (i := .dup2) (n := 1) (pc' := 16) (st' := [dz_I a1, .ref (c0 + 2), dz_I a1, .ref (c0 + 2)]) rfl rfl ?_
  obtain ⟨k2, H⟩ := dz_ck H
  refine wq_ia (j' := dz_c a1) (pc' := 17) rfl (ha_F_1 hc0) rfl k2.1 k2.2 rfl ?_
  refine wp_s (i := .iload_n 3) (n := 1) (pc' := 18) (st' := [dz_I a3, dz_I (Z1 c0 1 (dz_c a1)), dz_I a1, .ref (c0 + 2)]) rfl rfl ?_
  refine wq_2 (i := .iadd) (z := (Z1 c0 1 (dz_c a1)) + a3) (pc' := 19) rfl rfl (op_add _ _) rfl ?_
  refine wq_is (j' := dz_c a1) (x := (Z1 c0 1 (dz_c a1)) + a3) (pc' := 20) rfl (ha_F_1 hc0) rfl k2.1 k2.2 rfl (fun Z3 eZ3 => ?_)
  replace H := dz_le H Z3 eZ3
  clear eZ3
  refine wp_s (i := .iload_n 2) (n := 1) (pc' := 21) (st' := [dz_I a2]) rfl rfl ?_
  refine dz_jn (P := fun (q6 : Int) => mm_Wp X D mm_r21 36 [some (.ref c0), some (dz_I a1), some (dz_I a2), some (dz_I a3), none] [dz_I q6] (hz_0 Z3) Q) (dz_bi H) (fun q6 H => ?_) (fun H => ?_)
  · skip
    refine wq_st (k := 4) (i := .istore 4) (n := 2) (ls' := [some (.ref c0), some (dz_I a1), some (dz_I a2), some (dz_I a3), some (dz_I q6)]) (pc' := 38) rfl rfl rfl rfl rfl ?_
    refine wp_s (i := .aload_n 0) (n := 1) (pc' := 39) (st' := [.ref c0]) rfl rfl ?_
    refine wq_gr (idx := 15) (a := c0 + 2) (pc' := 42) rfl rfl (ho_F hc0) rfl rfl ?_
    refine wp_s (i := .iload_n 1) (n := 1) (pc' := 43) (st' := [dz_I a1, .ref (c0 + 2)]) rfl rfl ?_
    refine wp_s (i := .dup2) (n := 1) (pc' := 44) (st' := [dz_I a1, .ref (c0 + 2), dz_I a1, .ref (c0 + 2)]) rfl rfl ?_
    refine wq_ia (j' := dz_c a1) (pc' := 45) rfl (ha_F_1 hc0) rfl k2.1 k2.2 rfl ?_
    refine wp_s (i := .iload 4) (n := 2) (pc' := 47) (st' := [dz_I q6, dz_I (Z3 c0 1 (dz_c a1)), dz_I a1, .ref (c0 + 2)]) rfl rfl ?_
    refine wp_s (i := .iload_n 2) (n := 1) (pc' := 48) (st' := [dz_I a2, dz_I q6, dz_I (Z3 c0 1 (dz_c a1)), dz_I a1, .ref (c0 + 2)]) rfl rfl ?_
    refine wq_2 (i := .imul) (z := q6 * a2) (pc' := 49) rfl rfl (op_mul _ _) rfl ?_
    refine wq_2 (i := .isub) (z := (Z3 c0 1 (dz_c a1)) - (q6 * a2)) (pc' := 50) rfl rfl (op_sub _ _) rfl ?_
    refine wq_is (j' := dz_c a1) (x := (Z3 c0 1 (dz_c a1)) - (q6 * a2)) (pc' := 51) rfl (ha_F_1 hc0) rfl k2.1 k2.2 rfl (fun Z7 eZ7 => ?_)
    replace H := dz_le H Z7 eZ7
    clear eZ7
    refine wp_s (i := .iload 4) (n := 2) (pc' := 53) (st' := [dz_I q6]) rfl rfl ?_
    refine wq_ri rfl rfl ?_
    replace H := dz_sm H
    exact H
  · skip
    refine wq_if (p := dz_c a2 ≤ 0) (tt := 35) (pc' := 24) rfl rfl (cz_le rfl) rfl (fun c8 => ?_) (fun c8 => ?_)
    · replace H := dz_it c8 H
      refine wp_s (i := .iconst 0) (n := 1) (pc' := 36) (st' := [dz_I 0]) rfl rfl ?_
      replace H := dz_sm H
      exact H
    · replace H := dz_if c8 H
      refine wp_s (i := .aload_n 0) (n := 1) (pc' := 25) (st' := [.ref c0]) rfl rfl ?_
      refine wq_gr (idx := 15) (a := c0 + 2) (pc' := 28) rfl rfl (ho_F hc0) rfl rfl ?_
      refine wp_s (i := .iload_n 1) (n := 1) (pc' := 29) (st' := [dz_I a1, .ref (c0 + 2)]) rfl rfl ?_
      refine wq_ia (j' := dz_c a1) (pc' := 30) rfl (ha_F_1 hc0) rfl k2.1 k2.2 rfl ?_
      refine wp_s (i := .iload_n 2) (n := 1) (pc' := 31) (st' := [dz_I a2, dz_I (Z3 c0 1 (dz_c a1))]) rfl rfl ?_
      obtain ⟨k9, H⟩ := dz_ck H
      refine wq_2 (i := .idiv) (z := Int.tdiv (dz_c (Z3 c0 1 (dz_c a1))) (dz_c a2)) (pc' := 32) rfl rfl (op_div rfl rfl k9) rfl ?_
      refine wp_s (i := .goto 4) (n := 3) (pc' := 36) (st' := [dz_I (Int.tdiv (dz_c (Z3 c0 1 (dz_c a1))) (dz_c a2))]) rfl rfl ?_
      replace H := dz_sm H
      exact H
