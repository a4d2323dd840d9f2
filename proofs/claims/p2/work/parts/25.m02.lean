-- 53
def jf_S_forget (c0 : Nat) (Z : dz_Z) : Option (dz_Z) := dz_a (dz_f Z c0 0 (fun _ => 2)) fun Z1 => dz_a (dz_f Z1 c0 1 (fun _ => 0)) fun Z2 => dz_a (dz_u Z2 c0 6 0 0) fun Z3 => some Z3
set_option maxRecDepth 20000 in
theorem jw_S_forget {X : Option (List Int32)} {D : Nat} {Q : Option Value → mm_H → Prop} (c0 : Nat) (hc0 : hz_isS c0) (Z : dz_Z) (H : dz_p (jf_S_forget c0 Z) (fun q => Q (none) (hz_0 q))) : mm_Wp X (D + 1) mm_r53 0 [some (.ref c0)] [] (hz_0 Z) Q := by
  unfold jf_S_forget at H
  refine wp_s (i := .aload_n 0) (n := 1) (pc' := 1) (st' := [.ref c0]) rfl rfl ?_
  refine wq_gr (idx := 9) (a := c0 + 1) (pc' := 4) rfl rfl (ho_S hc0) rfl rfl ?_
  refine wp_s (i := .iconst 2) (n := 1) (pc' := 5) (st' := [dz_I 2, .ref (c0 + 1)]) rfl rfl ?_
  refine wq_cs (Dq := D) (r' := mm_r200) (as0 := [.ref (c0 + 1), dz_I 2]) (rest := []) (ls' := [some (.ref (c0 + 1)), some (dz_I 2), none, none]) (pc' := 8) rfl rfl (by decide) rfl rfl rfl rfl rfl ?_
  refine jw_fillI (ha_S_0 hc0) (by decide) (fun Z1 eZ1 => ?_)
  replace H := dz_le H Z1 eZ1
  clear eZ1
  show mm_Wp X (D + 1) mm_r53 8 [some (.ref c0)] [] (hz_0 Z1) Q
  refine wp_s (i := .aload_n 0) (n := 1) (pc' := 9) (st' := [.ref c0]) rfl rfl ?_
  refine wq_gr (idx := 15) (a := c0 + 2) (pc' := 12) rfl rfl (ho_S hc0) rfl rfl ?_
  refine wp_s (i := .iconst 0) (n := 1) (pc' := 13) (st' := [dz_I 0, .ref (c0 + 2)]) rfl rfl ?_
  refine wq_cs (Dq := D) (r' := mm_r200) (as0 := [.ref (c0 + 2), dz_I 0]) (rest := []) (ls' := [some (.ref (c0 + 2)), some (dz_I 0), none, none]) (pc' := 16) rfl rfl (by decide) rfl rfl rfl rfl rfl ?_
  refine jw_fillI (ha_S_1 hc0) (by decide) (fun Z2 eZ2 => ?_)
  replace H := dz_le H Z2 eZ2
  clear eZ2
  show mm_Wp X (D + 1) mm_r53 16 [some (.ref c0)] [] (hz_0 Z2) Q
  refine wp_s (i := .aload_n 0) (n := 1) (pc' := 17) (st' := [.ref c0]) rfl rfl ?_
  refine wp_s (i := .iconst 0) (n := 1) (pc' := 18) (st' := [dz_I 0, .ref c0]) rfl rfl ?_
  refine wq_pi (idx := 38) (x := 0) (pc' := 21) rfl rfl rfl (ho_S hc0) rfl rfl rfl rfl (fun Z3 eZ3 => ?_)
  replace H := dz_le H Z3 eZ3
  clear eZ3
  refine wq_rv rfl rfl ?_
  replace H := dz_sm H
  exact H
-- 29
def jf_R_begin (Z : dz_Z) : Option (dz_Z) := if hz_isP (Z 1 1 0).toNat then Option.bind (jf_P_forget ((Z 1 1 0).toNat) Z) fun q2 => if hz_isS (q2 1 2 0).toNat then Option.bind (jf_S_forget ((q2 1 2 0).toNat) q2) fun q4 => dz_a (dz_u q4 1 5 0 0) fun Z5 => dz_a (dz_u Z5 1 3 0 0) fun Z6 => dz_a (dz_u Z6 1 4 0 0) fun Z7 => dz_a (dz_u Z7 1 6 0 0) fun Z8 => some Z8 else none else none
set_option maxRecDepth 20000 in
theorem jw_R_begin {X : Option (List Int32)} {D : Nat} {Q : Option Value → mm_H → Prop} (Z : dz_Z) (H : dz_p (jf_R_begin Z) (fun q => Q (none) (hz_0 q))) : mm_Wp X (D + 2) mm_r29 0 [some (.ref 1)] [] (hz_0 Z) Q := by
  unfold jf_R_begin at H
  refine wp_s (i := .aload_n 0) (n := 1) (pc' := 1) (st' := [.ref 1]) rfl rfl ?_
  obtain ⟨k1, H⟩ := dz_ck H
  refine wq_gd (idx := 21) (pc' := 4) rfl rfl ho_R rfl rfl ?_
  refine wq_cv (Dq := (D + 1)) (r' := mm_r27) (as0 := []) (rest := []) (ls' := [some (.ref ((Z 1 1 0).toNat))]) (pc' := 7) rfl rfl rfl rfl (ho_P k1) rfl rfl rfl ?_
  refine jw_P_forget (X := X) (D := D + 1) ((Z 1 1 0).toNat) k1 Z (dz_pm (dz_bi H) (fun q2 H => ?_))
  show mm_Wp X (D + 2) mm_r29 7 [some (.ref 1)] [] (hz_0 q2) Q
  refine wp_s (i := .aload_n 0) (n := 1) (pc' := 8) (st' := [.ref 1]) rfl rfl ?_
  obtain ⟨k3, H⟩ := dz_ck H
  refine wq_gd (idx := 28) (pc' := 11) rfl rfl ho_R rfl rfl ?_
  refine wq_cv (Dq := (D + 1)) (r' := mm_r53) (as0 := []) (rest := []) (ls' := [some (.ref ((q2 1 2 0).toNat))]) (pc' := 14) rfl rfl rfl rfl (ho_S k3) rfl rfl rfl ?_
  refine jw_S_forget (X := X) (D := D + 0) ((q2 1 2 0).toNat) k3 q2 (dz_pm (dz_bi H) (fun q4 H => ?_))
  show mm_Wp X (D + 2) mm_r29 14 [some (.ref 1)] [] (hz_0 q4) Q
  refine wp_s (i := .aload_n 0) (n := 1) (pc' := 15) (st' := [.ref 1]) rfl rfl ?_
  refine wp_s (i := .iconst 0) (n := 1) (pc' := 16) (st' := [dz_I 0, .ref 1]) rfl rfl ?_
  refine wq_pi (idx := 36) (x := 0) (pc' := 19) rfl rfl rfl ho_R rfl rfl rfl rfl (fun Z5 eZ5 => ?_)
  replace H := dz_le H Z5 eZ5
  clear eZ5
  refine wp_s (i := .aload_n 0) (n := 1) (pc' := 20) (st' := [.ref 1]) rfl rfl ?_
  refine wp_s (i := .iconst 0) (n := 1) (pc' := 21) (st' := [dz_I 0, .ref 1]) rfl rfl ?_
  refine wq_pi (idx := 40) (x := 0) (pc' := 24) rfl rfl rfl ho_R rfl rfl rfl rfl (fun Z6 eZ6 => ?_)
  replace H := dz_le H Z6 eZ6
  clear eZ6
  refine wp_s (i := .aload_n 0) (n := 1) (pc' := 25) (st' := [.ref 1]) rfl rfl ?_
  refine wp_s (i := .iconst 0) (n := 1) (pc' := 26) (st' := [dz_I 0, .ref 1]) rfl rfl ?_
  refine wq_pi (idx := 44) (x := 0) (pc' := 29) rfl rfl rfl ho_R rfl rfl rfl rfl (fun Z7 eZ7 => ?_)
  replace H := dz_le H Z7 eZ7
  clear eZ7
  refine wp_s (i := .aload_n 0) (n := 1) (pc' := 30) (st' := [.ref 1]) rfl rfl ?_
  refine wp_s (i := .iconst 0) (n := 1) (pc' := 31) (st' := [dz_I 0, .ref 1]) rfl rfl ?_
  refine wq_pi (idx := 47) (x := 0) (pc' := 34) rfl rfl rfl ho_R rfl rfl rfl rfl (fun Z8 eZ8 => ?_)
  replace H := dz_le H Z8 eZ8
  clear eZ8
  refine wq_rv rfl rfl ?_
  replace H := dz_sm H
  exact H
-- 30
def jf_R_fail (a1 : Int) (Z : dz_Z) : Option (Bool × dz_Z) := dz_a (dz_u Z 1 3 0 a1) fun Z1 => dz_a (dz_u Z1 1 4 0 (Z1 1 7 0)) fun Z2 => some (false, Z2)
set_option maxRecDepth 20000 in
theorem jw_R_fail {X : Option (List Int32)} {D : Nat} {Q : Option Value → mm_H → Prop} (a1 : Int) (Z : dz_Z) (H : dz_p (jf_R_fail a1 Z) (fun q => Q (some (dz_B q.1)) (hz_0 q.2))) : mm_Wp X D mm_r30 0 [some (.ref 1), some (dz_I a1)] [] (hz_0 Z) Q := by
  unfold jf_R_fail at H
  refine wp_s (i := .aload_n 0) (n := 1) (pc' := 1) (st' := [.ref 1]) rfl rfl ?_
  refine wp_s (i := .iload_n 1) (n := 1) (pc' := 2) (st' := [dz_I a1, .ref 1]) rfl rfl ?_
  refine wq_pi (idx := 40) (x := a1) (pc' := 5) rfl rfl rfl ho_R rfl rfl rfl rfl (fun Z1 eZ1 => ?_)
  replace H := dz_le H Z1 eZ1
  clear eZ1
  refine wp_s (i := .aload_n 0) (n := 1) (pc' := 6) (st' := [.ref 1]) rfl rfl ?_
  refine wp_s (i := .aload_n 0) (n := 1) (pc' := 7) (st' := [.ref 1, .ref 1]) rfl rfl ?_
  refine wq_gi (idx := 50) (pc' := 10) rfl rfl ho_R rfl rfl ?_
  refine wq_pi (idx := 44) (x := Z1 1 7 0) (pc' := 13) rfl rfl rfl ho_R rfl rfl rfl rfl (fun Z2 eZ2 => ?_)
  replace H := dz_le H Z2 eZ2
  clear eZ2
  refine wp_s (i := .iconst 0) (n := 1) (pc' := 14) (st' := [dz_I 0]) rfl rfl ?_
  refine wq_rf rfl rfl ?_
  replace H := dz_sm H
  exact H
-- 32
def jf_R_kindAt (a1 : Int) (Z : dz_Z) : Option (Int) := if dz_c a1 < dz_c (Z 2 1 0) then (if 0 ≤ dz_c a1 ∧ dz_c a1 < 320 then if dz_c (Z 2 0 (dz_c a1)) < 97 then (if dz_c (Z 2 0 (dz_c a1)) < 48 then (if dz_c (Z 2 0 (dz_c a1)) ≠ 59 then (some 0) else (some 4)) else (if 57 < dz_c (Z 2 0 (dz_c a1)) then (if dz_c (Z 2 0 (dz_c a1)) ≠ 59 then (some 0) else (some 4)) else (some 3))) else (if 122 < dz_c (Z 2 0 (dz_c a1)) then (if dz_c (Z 2 0 (dz_c a1)) < 48 then (if dz_c (Z 2 0 (dz_c a1)) ≠ 59 then (some 0) else (some 4)) else (if 57 < dz_c (Z 2 0 (dz_c a1)) then (if dz_c (Z 2 0 (dz_c a1)) ≠ 59 then (some 0) else (some 4)) else (some 3))) else (some 2)) else none) else (some 1)
set_option maxRecDepth 20000 in
theorem jw_R_kindAt {X : Option (List Int32)} {D : Nat} {Q : Option Value → mm_H → Prop} (a1 : Int) (Z : dz_Z) (H : dz_p (jf_R_kindAt a1 Z) (fun q => Q (some (dz_I q)) (hz_0 Z))) : mm_Wp X D mm_r32 0 [some (.ref 1), some (dz_I a1), none] [] (hz_0 Z) Q := by
  unfold jf_R_kindAt at H
  refine wp_s (i := .iload_n 1) (n := 1) (pc' := 1) (st' := [dz_I a1]) rfl rfl ?_
  refine wp_s (i := .aload_n 0) (n := 1) (pc' := 2) (st' := [.ref 1, dz_I a1]) rfl rfl ?_
  refine wq_gr (idx := 12) (a := 2) (pc' := 5) rfl rfl ho_R rfl rfl ?_
  refine wq_gi (idx := 53) (pc' := 8) rfl rfl ho_T rfl rfl ?_
  refine wq_ic (p := dz_c a1 < dz_c (Z 2 1 0)) (tt := 13) (pc' := 11) rfl rfl (cq_lt rfl rfl) rfl (fun c1 => ?_) (fun c1 => ?_)
  · replace H := dz_it c1 H
    refine wp_s (i := .aload_n 0) (n := 1) (pc' := 14) (st' := [.ref 1]) rfl rfl ?_
    refine wq_gr (idx := 12) (a := 2) (pc' := 17) rfl rfl ho_R rfl rfl ?_
    refine wq_gr (idx := 56) (a := 3) (pc' := 20) rfl rfl ho_T rfl rfl ?_
    refine wp_s (i := .iload_n 1) (n := 1) (pc' := 21) (st' := [dz_I a1, .ref 3]) rfl rfl ?_
    obtain ⟨k2, H⟩ := dz_ck H
    refine wq_ba (j' := dz_c a1) (pc' := 22) rfl (by decide) ha_T_0 rfl k2.1 k2.2 rfl ?_
    refine wq_st (k := 2) (i := .istore_n 2) (n := 1) (ls' := [some (.ref 1), some (dz_I a1), some (dz_I (Z 2 0 (dz_c a1)))]) (pc' := 23) rfl rfl rfl rfl rfl ?_
    refine wp_s (i := .iload_n 2) (n := 1) (pc' := 24) (st' := [dz_I (Z 2 0 (dz_c a1))]) rfl rfl ?_
    refine wp_s (i := .bipush 97) (n := 2) (pc' := 26) (st' := [dz_I 97, dz_I (Z 2 0 (dz_c a1))]) rfl rfl ?_
    refine wq_ic (p := dz_c (Z 2 0 (dz_c a1)) < 97) (tt := 37) (pc' := 29) rfl rfl (cq_lt rfl dk_97) rfl (fun c3 => ?_) (fun c3 => ?_)
    · replace H := dz_it c3 H
      refine wp_s (i := .iload_n 2) (n := 1) (pc' := 38) (st' := [dz_I (Z 2 0 (dz_c a1))]) rfl rfl ?_
      refine wp_s (i := .bipush 48) (n := 2) (pc' := 40) (st' := [dz_I 48, dz_I (Z 2 0 (dz_c a1))]) rfl rfl ?_
      refine wq_ic (p := dz_c (Z 2 0 (dz_c a1)) < 48) (tt := 51) (pc' := 43) rfl rfl (cq_lt rfl dk_48) rfl (fun c4 => ?_) (fun c4 => ?_)
      · replace H := dz_it c4 H
        refine wp_s (i := .iload_n 2) (n := 1) (pc' := 52) (st' := [dz_I (Z 2 0 (dz_c a1))]) rfl rfl ?_
        refine wp_s (i := .bipush 59) (n := 2) (pc' := 54) (st' := [dz_I 59, dz_I (Z 2 0 (dz_c a1))]) rfl rfl ?_
        refine wq_ic (p := dz_c (Z 2 0 (dz_c a1)) ≠ 59) (tt := 61) (pc' := 57) rfl rfl (cq_ne rfl dk_59) rfl (fun c5 => ?_) (fun c5 => ?_)
        · replace H := dz_it c5 H
          refine wp_s (i := .iconst 0) (n := 1) (pc' := 62) (st' := [dz_I 0]) rfl rfl ?_
          refine wq_ri rfl rfl ?_
          replace H := dz_sm H
          exact H
        · replace H := dz_if c5 H
          refine wp_s (i := .iconst 4) (n := 1) (pc' := 58) (st' := [dz_I 4]) rfl rfl ?_
          refine wp_s (i := .goto 4) (n := 3) (pc' := 62) (st' := [dz_I 4]) rfl rfl ?_
          refine wq_ri rfl rfl ?_
          replace H := dz_sm H
          exact H
      · replace H := dz_if c4 H
        refine wp_s (i := .iload_n 2) (n := 1) (pc' := 44) (st' := [dz_I (Z 2 0 (dz_c a1))]) rfl rfl ?_
        refine wp_s (i := .bipush 57) (n := 2) (pc' := 46) (st' := [dz_I 57, dz_I (Z 2 0 (dz_c a1))]) rfl rfl ?_
        refine wq_ic (p := 57 < dz_c (Z 2 0 (dz_c a1))) (tt := 51) (pc' := 49) rfl rfl (cq_gt rfl dk_57) rfl (fun c6 => ?_) (fun c6 => ?_)
        · replace H := dz_it c6 H
          refine wp_s (i := .iload_n 2) (n := 1) (pc' := 52) (st' := [dz_I (Z 2 0 (dz_c a1))]) rfl rfl ?_
          refine wp_s (i := .bipush 59) (n := 2) (pc' := 54) (st' := [dz_I 59, dz_I (Z 2 0 (dz_c a1))]) rfl rfl ?_
          refine wq_ic (p := dz_c (Z 2 0 (dz_c a1)) ≠ 59) (tt := 61) (pc' := 57) rfl rfl (cq_ne rfl dk_59) rfl (fun c7 => ?_) (fun c7 => ?_)
          · replace H := dz_it c7 H
            refine wp_s (i := .iconst 0) (n := 1) (pc' := 62) (st' := [dz_I 0]) rfl rfl ?_
            refine wq_ri rfl rfl ?_
            replace H := dz_sm H
            exact H
          · replace H := dz_if c7 H
            refine wp_s (i := .iconst 4) (n := 1) (pc' := 58) (st' := [dz_I 4]) rfl rfl ?_
            refine wp_s (i := .goto 4) (n := 3) (pc' := 62) (st' := [dz_I 4]) rfl rfl ?_
            refine wq_ri rfl rfl ?_
            replace H := dz_sm H
            exact H
        · replace H := dz_if c6 H
          refine wp_s (i := .iconst 3) (n := 1) (pc' := 50) (st' := [dz_I 3]) rfl rfl ?_
          refine wq_ri rfl rfl ?_
          replace H := dz_sm H
          exact H
    · replace H := dz_if c3 H
      refine wp_s (i := .iload_n 2) (n := 1) (pc' := 30) (st' := [dz_I (Z 2 0 (dz_c a1))]) rfl rfl ?_
      refine wp_s (i := .bipush 122) (n := 2) (pc' := 32) (st' := [dz_I 122, dz_I (Z 2 0 (dz_c a1))]) rfl rfl ?_
      refine wq_ic (p := 122 < dz_c (Z 2 0 (dz_c a1))) (tt := 37) (pc' := 35) rfl rfl (cq_gt rfl dk_122) rfl (fun c8 => ?_) (fun c8 => ?_)
      · replace H := dz_it c8 H
        refine wp_s (i := .iload_n 2) (n := 1) (pc' := 38) (st' := [dz_I (Z 2 0 (dz_c a1))]) rfl rfl ?_
        refine wp_s (i := .bipush 48) (n := 2) (pc' := 40) (st' := [dz_I 48, dz_I (Z 2 0 (dz_c a1))]) rfl rfl ?_
        refine wq_ic (p := dz_c (Z 2 0 (dz_c a1)) < 48) (tt := 51) (pc' := 43) rfl rfl (cq_lt rfl dk_48) rfl (fun c9 => ?_) (fun c9 => ?_)
        · replace H := dz_it c9 H
          refine wp_s (i := .iload_n 2) (n := 1) (pc' := 52) (st' := [dz_I (Z 2 0 (dz_c a1))]) rfl rfl ?_
          refine wp_s (i := .bipush 59) (n := 2) (pc' := 54) (st' := [dz_I 59, dz_I (Z 2 0 (dz_c a1))]) rfl rfl ?_
          refine wq_ic (p := dz_c (Z 2 0 (dz_c a1)) ≠ 59) (tt := 61) (pc' := 57) rfl rfl (cq_ne rfl dk_59) rfl (fun c10 => ?_) (fun c10 => ?_)
          · replace H := dz_it c10 H
            refine wp_s (i := .iconst 0) (n := 1) (pc' := 62) (st' := [dz_I 0]) rfl rfl ?_
            refine wq_ri rfl rfl ?_
            replace H := dz_sm H
            exact H
          · replace H := dz_if c10 H
            refine wp_s (i := .iconst 4) (n := 1) (pc' := 58) (st' := [dz_I 4]) rfl rfl ?_
            refine wp_s (i := .goto 4) (n := 3) (pc' := 62) (st' := [dz_I 4]) rfl rfl ?_
            refine wq_ri rfl rfl ?_
            replace H := dz_sm H
            exact H
        · replace H := dz_if c9 H
          refine wp_s (i := .iload_n 2) (n := 1) (pc' := 44) (st' := [dz_I (Z 2 0 (dz_c a1))]) rfl rfl ?_
          refine wp_s (i := .bipush 57) (n := 2) (pc' := 46) (st' := [dz_I 57, dz_I (Z 2 0 (dz_c a1))]) rfl rfl ?_
          refine wq_ic (p := 57 < dz_c (Z 2 0 (dz_c a1))) (tt := 51) (pc' := 49) rfl rfl (cq_gt rfl dk_57) rfl (fun c11 => ?_) (fun c11 => ?_)
          · replace H := dz_it c11 H
            refine wp_s (i := .iload_n 2) (n := 1) (pc' := 52) (st' := [dz_I (Z 2 0 (dz_c a1))]) rfl rfl ?_
            refine wp_s (i := .bipush 59) (n := 2) (pc' := 54) (st' := [dz_I 59, dz_I (Z 2 0 (dz_c a1))]) rfl rfl ?_
            refine wq_ic (p := dz_c (Z 2 0 (dz_c a1)) ≠ 59) (tt := 61) (pc' := 57) rfl rfl (cq_ne rfl dk_59) rfl (fun c12 => ?_) (fun c12 => ?_)
            · replace H := dz_it c12 H
              refine wp_s (i := .iconst 0) (n := 1) (pc' := 62) (st' := [dz_I 0]) rfl rfl ?_
              refine wq_ri rfl rfl ?_
              replace H := dz_sm H
              exact H
            · replace H := dz_if c12 H
              refine wp_s (i := .iconst 4) (n := 1) (pc' := 58) (st' := [dz_I 4]) rfl rfl ?_
              refine wp_s (i := .goto 4) (n := 3) (pc' := 62) (st' := [dz_I 4]) rfl rfl ?_
              refine wq_ri rfl rfl ?_
              replace H := dz_sm H
              exact H
          · replace H := dz_if c11 H
            refine wp_s (i := .iconst 3) (n := 1) (pc' := 50) (st' := [dz_I 3]) rfl rfl ?_
            refine wq_ri rfl rfl ?_
            replace H := dz_sm H
            exact H
      · replace H := dz_if c8 H
        refine wp_s (i := .iconst 2) (n := 1) (pc' := 36) (st' := [dz_I 2]) rfl rfl ?_
        refine wq_ri rfl rfl ?_
        replace H := dz_sm H
        exact H
  · replace H := dz_if c1 H
    refine wp_s (i := .iconst 1) (n := 1) (pc' := 12) (st' := [dz_I 1]) rfl rfl ?_
    refine wq_ri rfl rfl ?_
    replace H := dz_sm H
    exact H
-- 31
def jf_R_nextToken (Z : dz_Z) : Option (Bool × dz_Z) := dz_lp (fun (s1 : dz_Z) => if dz_c (s1 2 1 0) ≤ dz_c (s1 1 6 0) then (dz_a (dz_u s1 1 7 0 (s1 1 6 0)) fun Z3 => Option.bind (jf_R_kindAt (Z3 1 6 0) Z3) fun q4 => dz_a (dz_u Z3 1 8 0 q4) fun Z5 => Option.bind (α := dz_Z) (if dz_c (Z5 1 8 0) = 2 then (dz_lp (fun (s33 : dz_Z) => if dz_c (s33 2 1 0) ≤ dz_c (s33 1 6 0) then (some (Sum.inr s33)) else (Option.bind (jf_R_kindAt (s33 1 6 0) s33) fun q35 => if dz_c q35 ≠ dz_c (s33 1 8 0) then (some (Sum.inr s33)) else (dz_a (dz_u s33 1 6 0 ((s33 1 6 0) + 1)) fun Z37 => some (Sum.inl Z37)))) 5000 Z5) else (if dz_c (Z5 1 8 0) ≠ 3 then (if dz_c (Z5 1 8 0) ≠ 4 then (some Z5) else (dz_a (dz_u Z5 1 6 0 ((Z5 1 6 0) + 1)) fun Z40 => some Z40)) else (dz_lp (fun (s41 : dz_Z) => if dz_c (s41 2 1 0) ≤ dz_c (s41 1 6 0) then (some (Sum.inr s41)) else (Option.bind (jf_R_kindAt (s41 1 6 0) s41) fun q43 => if dz_c q43 ≠ dz_c (s41 1 8 0) then (some (Sum.inr s41)) else (dz_a (dz_u s41 1 6 0 ((s41 1 6 0) + 1)) fun Z45 => some (Sum.inl Z45)))) 5000 Z5))) (fun (q20 : dz_Z) => Option.bind (α := Int) (if dz_c (q20 1 8 0) ≠ 3 then (some 0) else (if dz_c ((q20 1 6 0) - (q20 1 7 0)) ≤ 3 then (some 0) else (some 1))) (fun (q23 : Int) => if dz_c (q20 1 8 0) = 0 then (Option.bind (jf_R_fail 1 q20) fun q25 => if q25.1 = false then (some (Sum.inr (false, q25.2))) else (some (Sum.inr (true, q25.2)))) else (if dz_c q23 = 0 then (some (Sum.inr (true, q20))) else (Option.bind (jf_R_fail 1 q20) fun q28 => if q28.1 = false then (some (Sum.inr (false, q28.2))) else (some (Sum.inr (true, q28.2)))))))) else (if 0 ≤ dz_c (s1 1 6 0) ∧ dz_c (s1 1 6 0) < 320 then if dz_c (s1 2 0 (dz_c (s1 1 6 0))) ≠ 32 then (dz_a (dz_u s1 1 7 0 (s1 1 6 0)) fun Z48 => Option.bind (jf_R_kindAt (Z48 1 6 0) Z48) fun q49 => dz_a (dz_u Z48 1 8 0 q49) fun Z50 => Option.bind (α := dz_Z) (if dz_c (Z50 1 8 0) = 2 then (dz_lp (fun (s78 : dz_Z) => if dz_c (s78 2 1 0) ≤ dz_c (s78 1 6 0) then (some (Sum.inr s78)) else (Option.bind (jf_R_kindAt (s78 1 6 0) s78) fun q80 => if dz_c q80 ≠ dz_c (s78 1 8 0) then (some (Sum.inr s78)) else (dz_a (dz_u s78 1 6 0 ((s78 1 6 0) + 1)) fun Z82 => some (Sum.inl Z82)))) 5000 Z50) else (if dz_c (Z50 1 8 0) ≠ 3 then (if dz_c (Z50 1 8 0) ≠ 4 then (some Z50) else (dz_a (dz_u Z50 1 6 0 ((Z50 1 6 0) + 1)) fun Z85 => some Z85)) else (dz_lp (fun (s86 : dz_Z) => if dz_c (s86 2 1 0) ≤ dz_c (s86 1 6 0) then (some (Sum.inr s86)) else (Option.bind (jf_R_kindAt (s86 1 6 0) s86) fun q88 => if dz_c q88 ≠ dz_c (s86 1 8 0) then (some (Sum.inr s86)) else (dz_a (dz_u s86 1 6 0 ((s86 1 6 0) + 1)) fun Z90 => some (Sum.inl Z90)))) 5000 Z50))) (fun (q65 : dz_Z) => Option.bind (α := Int) (if dz_c (q65 1 8 0) ≠ 3 then (some 0) else (if dz_c ((q65 1 6 0) - (q65 1 7 0)) ≤ 3 then (some 0) else (some 1))) (fun (q68 : Int) => if dz_c (q65 1 8 0) = 0 then (Option.bind (jf_R_fail 1 q65) fun q70 => if q70.1 = false then (some (Sum.inr (false, q70.2))) else (some (Sum.inr (true, q70.2)))) else (if dz_c q68 = 0 then (some (Sum.inr (true, q65))) else (Option.bind (jf_R_fail 1 q65) fun q73 => if q73.1 = false then (some (Sum.inr (false, q73.2))) else (some (Sum.inr (true, q73.2)))))))) else (dz_a (dz_u s1 1 6 0 ((s1 1 6 0) + 1)) fun Z91 => some (Sum.inl Z91)) else none)) 5000 Z
set_option maxRecDepth 20000 in
theorem jw_R_nextToken {X : Option (List Int32)} {D : Nat} {Q : Option Value → mm_H → Prop} (Z : dz_Z) (H : dz_p (jf_R_nextToken Z) (fun q => Q (some (dz_B q.1)) (hz_0 q.2))) : mm_Wp X (D + 1) mm_r31 0 [some (.ref 1), none] [] (hz_0 Z) Q := by
  unfold jf_R_nextToken at H
  refine dz_lpi (P := fun (s1 : dz_Z) => mm_Wp X (D + 1) mm_r31 0 [some (.ref 1), none] [] (hz_0 s1) Q) (fun s1 H => ?_) 5000 Z H
  refine wp_s (i := .aload_n 0) (n := 1) (pc' := 1) (st' := [.ref 1]) rfl rfl ?_
  refine wq_gi (idx := 47) (pc' := 4) rfl rfl ho_R rfl rfl ?_
  refine wp_s (i := .aload_n 0) (n := 1) (pc' := 5) (st' := [.ref 1, dz_I (s1 1 6 0)]) rfl rfl ?_
  refine wq_gr (idx := 12) (a := 2) (pc' := 8) rfl rfl ho_R rfl rfl ?_
  refine wq_gi (idx := 53) (pc' := 11) rfl rfl ho_T rfl rfl ?_
  refine wq_ic (p := dz_c (s1 2 1 0) ≤ dz_c (s1 1 6 0)) (tt := 44) (pc' := 14) rfl rfl (cq_ge rfl rfl) rfl (fun c2 => ?_) (fun c2 => ?_)
  · replace H := dz_it c2 H
    refine wp_s (i := .aload_n 0) (n := 1) (pc' := 45) (st' := [.ref 1]) rfl rfl ?_
    refine wp_s (i := .aload_n 0) (n := 1) (pc' := 46) (st' := [.ref 1, .ref 1]) rfl rfl ?_
    refine wq_gi (idx := 47) (pc' := 49) rfl rfl ho_R rfl rfl ?_
    refine wq_pi (idx := 50) (x := s1 1 6 0) (pc' := 52) rfl rfl rfl ho_R rfl rfl rfl rfl (fun Z3 eZ3 => ?_)
    replace H := dz_le H Z3 eZ3
    clear eZ3
    refine wp_s (i := .aload_n 0) (n := 1) (pc' := 53) (st' := [.ref 1]) rfl rfl ?_
    refine wp_s (i := .aload_n 0) (n := 1) (pc' := 54) (st' := [.ref 1, .ref 1]) rfl rfl ?_
    refine wp_s (i := .aload_n 0) (n := 1) (pc' := 55) (st' := [.ref 1, .ref 1, .ref 1]) rfl rfl ?_
    refine wq_gi (idx := 47) (pc' := 58) rfl rfl ho_R rfl rfl ?_
    refine wq_cv (Dq := D) (r' := mm_r32) (as0 := [dz_I (Z3 1 6 0)]) (rest := [.ref 1]) (ls' := [some (.ref 1), some (dz_I (Z3 1 6 0)), none]) (pc' := 61) rfl rfl rfl rfl ho_R rfl rfl rfl ?_
    refine jw_R_kindAt (X := X) (D := D + 0) (Z3 1 6 0) Z3 (dz_pm (dz_bi H) (fun q4 H => ?_))
    show mm_Wp X (D + 1) mm_r31 61 [some (.ref 1), none] [dz_I q4, .ref 1] (hz_0 Z3) Q
    refine wq_pi (idx := 64) (x := q4) (pc' := 64) rfl rfl rfl ho_R rfl rfl rfl rfl (fun Z5 eZ5 => ?_)
    replace H := dz_le H Z5 eZ5
    clear eZ5
    refine wp_s (i := .aload_n 0) (n := 1) (pc' := 65) (st' := [.ref 1]) rfl rfl ?_
    refine wq_gi (idx := 64) (pc' := 68) rfl rfl ho_R rfl rfl ?_
    refine wp_s (i := .iconst 2) (n := 1) (pc' := 69) (st' := [dz_I 2, dz_I (Z5 1 8 0)]) rfl rfl ?_
    refine dz_jn (P := fun (q20 : dz_Z) => mm_Wp X (D + 1) mm_r31 140 [some (.ref 1), none] [] (hz_0 q20) Q) (dz_bi H) (fun q20 H => ?_) (fun H => ?_)
    · skip
      refine wp_s (i := .aload_n 0) (n := 1) (pc' := 141) (st' := [.ref 1]) rfl rfl ?_
      refine wq_gi (idx := 64) (pc' := 144) rfl rfl ho_R rfl rfl ?_
      refine wp_s (i := .iconst 3) (n := 1) (pc' := 145) (st' := [dz_I 3, dz_I (q20 1 8 0)]) rfl rfl ?_
      refine dz_jn (P := fun (q23 : Int) => mm_Wp X (D + 1) mm_r31 166 [some (.ref 1), none] [dz_I q23] (hz_0 q20) Q) (dz_bi H) (fun q23 H => ?_) (fun H => ?_)
      · skip
        refine wq_st (k := 1) (i := .istore_n 1) (n := 1) (ls' := [some (.ref 1), some (dz_I q23)]) (pc' := 167) rfl rfl rfl rfl rfl ?_
        refine wp_s (i := .aload_n 0) (n := 1) (pc' := 168) (st' := [.ref 1]) rfl rfl ?_
        refine wq_gi (idx := 64) (pc' := 171) rfl rfl ho_R rfl rfl ?_
        refine wq_if (p := dz_c (q20 1 8 0) = 0) (tt := 178) (pc' := 174) rfl rfl (cz_eq rfl) rfl (fun c24 => ?_) (fun c24 => ?_)
        · replace H := dz_it c24 H
          refine wp_s (i := .aload_n 0) (n := 1) (pc' := 179) (st' := [.ref 1]) rfl rfl ?_
          refine wp_s (i := .iconst 1) (n := 1) (pc' := 180) (st' := [dz_I 1, .ref 1]) rfl rfl ?_
          refine wq_cv (Dq := D) (r' := mm_r30) (as0 := [dz_I 1]) (rest := []) (ls' := [some (.ref 1), some (dz_I 1)]) (pc' := 183) rfl rfl rfl rfl ho_R rfl rfl rfl ?_
          refine jw_R_fail (X := X) (D := D + 0) 1 q20 (dz_pm (dz_bi H) (fun q25 H => ?_))
          show mm_Wp X (D + 1) mm_r31 183 [some (.ref 1), some (dz_I q23)] [dz_B q25.1] (hz_0 q25.2) Q
          refine wq_if (p := q25.1 = false) (tt := 190) (pc' := 186) rfl rfl (cb_eq) rfl (fun c26 => ?_) (fun c26 => ?_)
          · replace H := dz_it c26 H
            refine wp_s (i := .iconst 0) (n := 1) (pc' := 191) (st' := [dz_I 0]) rfl rfl ?_
            refine wq_rf rfl rfl ?_
            replace H := dz_out H
            replace H := dz_sm H
            exact H
          · replace H := dz_if c26 H
            refine wp_s (i := .iconst 1) (n := 1) (pc' := 187) (st' := [dz_I 1]) rfl rfl ?_
            refine wp_s (i := .goto 4) (n := 3) (pc' := 191) (st' := [dz_I 1]) rfl rfl ?_
            refine wq_rt rfl rfl ?_
            replace H := dz_out H
            replace H := dz_sm H
            exact H
        · replace H := dz_if c24 H
          refine wp_s (i := .iload_n 1) (n := 1) (pc' := 175) (st' := [dz_I q23]) rfl rfl ?_
          refine wq_if (p := dz_c q23 = 0) (tt := 186) (pc' := 178) rfl rfl (cz_eq rfl) rfl (fun c27 => ?_) (fun c27 => ?_)
          · replace H := dz_it c27 H
            refine wp_s (i := .iconst 1) (n := 1) (pc' := 187) (st' := [dz_I 1]) rfl rfl ?_
            refine wp_s (i := .goto 4) (n := 3) (pc' := 191) (st' := [dz_I 1]) rfl rfl ?_
            refine wq_rt rfl rfl ?_
            replace H := dz_out H
            replace H := dz_sm H
            exact H
          · replace H := dz_if c27 H
            refine wp_s (i := .aload_n 0) (n := 1) (pc' := 179) (st' := [.ref 1]) rfl rfl ?_
            refine wp_s (i := .iconst 1) (n := 1) (pc' := 180) (st' := [dz_I 1, .ref 1]) rfl rfl ?_
            refine wq_cv (Dq := D) (r' := mm_r30) (as0 := [dz_I 1]) (rest := []) (ls' := [some (.ref 1), some (dz_I 1)]) (pc' := 183) rfl rfl rfl rfl ho_R rfl rfl rfl ?_
            refine jw_R_fail (X := X) (D := D + 0) 1 q20 (dz_pm (dz_bi H) (fun q28 H => ?_))
            show mm_Wp X (D + 1) mm_r31 183 [some (.ref 1), some (dz_I q23)] [dz_B q28.1] (hz_0 q28.2) Q
            refine wq_if (p := q28.1 = false) (tt := 190) (pc' := 186) rfl rfl (cb_eq) rfl (fun c29 => ?_) (fun c29 => ?_)
            · replace H := dz_it c29 H
              refine wp_s (i := .iconst 0) (n := 1) (pc' := 191) (st' := [dz_I 0]) rfl rfl ?_
              refine wq_rf rfl rfl ?_
              replace H := dz_out H
              replace H := dz_sm H
              exact H
            · replace H := dz_if c29 H
              refine wp_s (i := .iconst 1) (n := 1) (pc' := 187) (st' := [dz_I 1]) rfl rfl ?_
              refine wp_s (i := .goto 4) (n := 3) (pc' := 191) (st' := [dz_I 1]) rfl rfl ?_
              refine wq_rt rfl rfl ?_
              replace H := dz_out H
              replace H := dz_sm H
              exact H
      · skip
        refine wq_ic (p := dz_c (q20 1 8 0) ≠ 3) (tt := 165) (pc' := 148) rfl rfl (cq_ne rfl dk_3) rfl (fun c30 => ?_) (fun c30 => ?_)
        · replace H := dz_it c30 H
          refine wp_s (i := .iconst 0) (n := 1) (pc' := 166) (st' := [dz_I 0]) rfl rfl ?_
          replace H := dz_sm H
          exact H
        · replace H := dz_if c30 H
          refine wp_s (i := .aload_n 0) (n := 1) (pc' := 149) (st' := [.ref 1]) rfl rfl ?_
          refine wq_gi (idx := 47) (pc' := 152) rfl rfl ho_R rfl rfl ?_
          refine wp_s (i := .aload_n 0) (n := 1) (pc' := 153) (st' := [.ref 1, dz_I (q20 1 6 0)]) rfl rfl ?_
          refine wq_gi (idx := 50) (pc' := 156) rfl rfl ho_R rfl rfl ?_
          refine wq_2 (i := .isub) (z := (q20 1 6 0) - (q20 1 7 0)) (pc' := 157) rfl rfl (op_sub _ _) rfl ?_
          refine wp_s (i := .iconst 3) (n := 1) (pc' := 158) (st' := [dz_I 3, dz_I ((q20 1 6 0) - (q20 1 7 0))]) rfl rfl ?_
          refine wq_ic (p := dz_c ((q20 1 6 0) - (q20 1 7 0)) ≤ 3) (tt := 165) (pc' := 161) rfl rfl (cq_le rfl dk_3) rfl (fun c31 => ?_) (fun c31 => ?_)
          · replace H := dz_it c31 H
            refine wp_s (i := .iconst 0) (n := 1) (pc' := 166) (st' := [dz_I 0]) rfl rfl ?_
            replace H := dz_sm H
            exact H
          · replace H := dz_if c31 H
            refine wp_s (i := .iconst 1) (n := 1) (pc' := 162) (st' := [dz_I 1]) rfl rfl ?_
            refine wp_s (i := .goto 4) (n := 3) (pc' := 166) (st' := [dz_I 1]) rfl rfl ?_
            replace H := dz_sm H
            exact H
    · skip
      refine wq_ic (p := dz_c (Z5 1 8 0) = 2) (tt := 80) (pc' := 72) rfl rfl (cq_eq rfl dk_2) rfl (fun c32 => ?_) (fun c32 => ?_)
      · replace H := dz_it c32 H
        refine dz_lpi (P := fun (s33 : dz_Z) => mm_Wp X (D + 1) mm_r31 80 [some (.ref 1), none] [] (hz_0 s33) Q) (fun s33 H => ?_) 5000 Z5 H
        refine wp_s (i := .aload_n 0) (n := 1) (pc' := 81) (st' := [.ref 1]) rfl rfl ?_
        refine wq_gi (idx := 47) (pc' := 84) rfl rfl ho_R rfl rfl ?_
        refine wp_s (i := .aload_n 0) (n := 1) (pc' := 85) (st' := [.ref 1, dz_I (s33 1 6 0)]) rfl rfl ?_
        refine wq_gr (idx := 12) (a := 2) (pc' := 88) rfl rfl ho_R rfl rfl ?_
        refine wq_gi (idx := 53) (pc' := 91) rfl rfl ho_T rfl rfl ?_
        refine wq_ic (p := dz_c (s33 2 1 0) ≤ dz_c (s33 1 6 0)) (tt := 140) (pc' := 94) rfl rfl (cq_ge rfl rfl) rfl (fun c34 => ?_) (fun c34 => ?_)
        · replace H := dz_it c34 H
          replace H := dz_out H
          replace H := dz_sm H
          exact H
        · replace H := dz_if c34 H
          refine wp_s (i := .aload_n 0) (n := 1) (pc' := 95) (st' := [.ref 1]) rfl rfl ?_
          refine wp_s (i := .aload_n 0) (n := 1) (pc' := 96) (st' := [.ref 1, .ref 1]) rfl rfl ?_
          refine wq_gi (idx := 47) (pc' := 99) rfl rfl ho_R rfl rfl ?_
          refine wq_cv (Dq := D) (r' := mm_r32) (as0 := [dz_I (s33 1 6 0)]) (rest := []) (ls' := [some (.ref 1), some (dz_I (s33 1 6 0)), none]) (pc' := 102) rfl rfl rfl rfl ho_R rfl rfl rfl ?_
          refine jw_R_kindAt (X := X) (D := D + 0) (s33 1 6 0) s33 (dz_pm (dz_bi H) (fun q35 H => ?_))
          show mm_Wp X (D + 1) mm_r31 102 [some (.ref 1), none] [dz_I q35] (hz_0 s33) Q
          refine wp_s (i := .aload_n 0) (n := 1) (pc' := 103) (st' := [.ref 1, dz_I q35]) rfl rfl ?_
          refine wq_gi (idx := 64) (pc' := 106) rfl rfl ho_R rfl rfl ?_
          refine wq_ic (p := dz_c q35 ≠ dz_c (s33 1 8 0)) (tt := 140) (pc' := 109) rfl rfl (cq_ne rfl rfl) rfl (fun c36 => ?_) (fun c36 => ?_)
          · replace H := dz_it c36 H
            replace H := dz_out H
            replace H := dz_sm H
            exact H
          · replace H := dz_if c36 H
            refine wp_s (i := .aload_n 0) (n := 1) (pc' := 110) (st' := [.ref 1]) rfl rfl ?_
            refine wp_s (i := .dup) (n := 1) (pc' := 111) (st' := [.ref 1, .ref 1]) rfl rfl ?_
            refine wq_gi (idx := 47) (pc' := 114) rfl rfl ho_R rfl rfl ?_
            refine wp_s (i := .iconst 1) (n := 1) (pc' := 115) (st' := [dz_I 1, dz_I (s33 1 6 0), .ref 1]) rfl rfl ?_
            refine wq_2 (i := .iadd) (z := (s33 1 6 0) + 1) (pc' := 116) rfl rfl (op_add _ _) rfl ?_
            refine wq_pi (idx := 47) (x := (s33 1 6 0) + 1) (pc' := 119) rfl rfl rfl ho_R rfl rfl rfl rfl (fun Z37 eZ37 => ?_)
            replace H := dz_le H Z37 eZ37
            clear eZ37
            refine wp_s (i := .goto (-39)) (n := 3) (pc' := 80) (st' := []) rfl rfl ?_
            replace H := dz_back H
            exact H
      · replace H := dz_if c32 H
        refine wp_s (i := .aload_n 0) (n := 1) (pc' := 73) (st' := [.ref 1]) rfl rfl ?_
        refine wq_gi (idx := 64) (pc' := 76) rfl rfl ho_R rfl rfl ?_
        refine wp_s (i := .iconst 3) (n := 1) (pc' := 77) (st' := [dz_I 3, dz_I (Z5 1 8 0)]) rfl rfl ?_
        refine wq_ic (p := dz_c (Z5 1 8 0) ≠ 3) (tt := 122) (pc' := 80) rfl rfl (cq_ne rfl dk_3) rfl (fun c38 => ?_) (fun c38 => ?_)
        · replace H := dz_it c38 H
          refine wp_s (i := .aload_n 0) (n := 1) (pc' := 123) (st' := [.ref 1]) rfl rfl ?_
          refine wq_gi (idx := 64) (pc' := 126) rfl rfl ho_R rfl rfl ?_
          refine wp_s (i := .iconst 4) (n := 1) (pc' := 127) (st' := [dz_I 4, dz_I (Z5 1 8 0)]) rfl rfl ?_
          refine wq_ic (p := dz_c (Z5 1 8 0) ≠ 4) (tt := 140) (pc' := 130) rfl rfl (cq_ne rfl dk_4) rfl (fun c39 => ?_) (fun c39 => ?_)
          · replace H := dz_it c39 H
            replace H := dz_sm H
            exact H
          · replace H := dz_if c39 H
            refine wp_s (i := .aload_n 0) (n := 1) (pc' := 131) (st' := [.ref 1]) rfl rfl ?_
            refine wp_s (i := .dup) (n := 1) (pc' := 132) (st' := [.ref 1, .ref 1]) rfl rfl ?_
            refine wq_gi (idx := 47) (pc' := 135) rfl rfl ho_R rfl rfl ?_
            refine wp_s (i := .iconst 1) (n := 1) (pc' := 136) (st' := [dz_I 1, dz_I (Z5 1 6 0), .ref 1]) rfl rfl ?_
            refine wq_2 (i := .iadd) (z := (Z5 1 6 0) + 1) (pc' := 137) rfl rfl (op_add _ _) rfl ?_
            refine wq_pi (idx := 47) (x := (Z5 1 6 0) + 1) (pc' := 140) rfl rfl rfl ho_R rfl rfl rfl rfl (fun Z40 eZ40 => ?_)
            replace H := dz_le H Z40 eZ40
            clear eZ40
            replace H := dz_sm H
            exact H
        · replace H := dz_if c38 H
          refine dz_lpi (P := fun (s41 : dz_Z) => mm_Wp X (D + 1) mm_r31 80 [some (.ref 1), none] [] (hz_0 s41) Q) (fun s41 H => ?_) 5000 Z5 H
          refine wp_s (i := .aload_n 0) (n := 1) (pc' := 81) (st' := [.ref 1]) rfl rfl ?_
          refine wq_gi (idx := 47) (pc' := 84) rfl rfl ho_R rfl rfl ?_
          refine wp_s (i := .aload_n 0) (n := 1) (pc' := 85) (st' := [.ref 1, dz_I (s41 1 6 0)]) rfl rfl ?_
          refine wq_gr (idx := 12) (a := 2) (pc' := 88) rfl rfl ho_R rfl rfl ?_
          refine wq_gi (idx := 53) (pc' := 91) rfl rfl ho_T rfl rfl ?_
          refine wq_ic (p := dz_c (s41 2 1 0) ≤ dz_c (s41 1 6 0)) (tt := 140) (pc' := 94) rfl rfl (cq_ge rfl rfl) rfl (fun c42 => ?_) (fun c42 => ?_)
          · replace H := dz_it c42 H
            replace H := dz_out H
            replace H := dz_sm H
            exact H
          · replace H := dz_if c42 H
            refine wp_s (i := .aload_n 0) (n := 1) (pc' := 95) (st' := [.ref 1]) rfl rfl ?_
            refine wp_s (i := .aload_n 0) (n := 1) (pc' := 96) (st' := [.ref 1, .ref 1]) rfl rfl ?_
            refine wq_gi (idx := 47) (pc' := 99) rfl rfl ho_R rfl rfl ?_
            refine wq_cv (Dq := D) (r' := mm_r32) (as0 := [dz_I (s41 1 6 0)]) (rest := []) (ls' := [some (.ref 1), some (dz_I (s41 1 6 0)), none]) (pc' := 102) rfl rfl rfl rfl ho_R rfl rfl rfl ?_
            refine jw_R_kindAt (X := X) (D := D + 0) (s41 1 6 0) s41 (dz_pm (dz_bi H) (fun q43 H => ?_))
            show mm_Wp X (D + 1) mm_r31 102 [some (.ref 1), none] [dz_I q43] (hz_0 s41) Q
            refine wp_s (i := .aload_n 0) (n := 1) (pc' := 103) (st' := [.ref 1, dz_I q43]) rfl rfl ?_
            refine wq_gi (idx := 64) (pc' := 106) rfl rfl ho_R rfl rfl ?_
            refine wq_ic (p := dz_c q43 ≠ dz_c (s41 1 8 0)) (tt := 140) (pc' := 109) rfl rfl (cq_ne rfl rfl) rfl (fun c44 => ?_) (fun c44 => ?_)
            · replace H := dz_it c44 H
              replace H := dz_out H
              replace H := dz_sm H
              exact H
            · replace H := dz_if c44 H
              refine wp_s (i := .aload_n 0) (n := 1) (pc' := 110) (st' := [.ref 1]) rfl rfl ?_
              refine wp_s (i := .dup) (n := 1) (pc' := 111) (st' := [.ref 1, .ref 1]) rfl rfl ?_
              refine wq_gi (idx := 47) (pc' := 114) rfl rfl ho_R rfl rfl ?_
              refine wp_s (i := .iconst 1) (n := 1) (pc' := 115) (st' := [dz_I 1, dz_I (s41 1 6 0), .ref 1]) rfl rfl ?_
              refine wq_2 (i := .iadd) (z := (s41 1 6 0) + 1) (pc' := 116) rfl rfl (op_add _ _) rfl ?_
              refine wq_pi (idx := 47) (x := (s41 1 6 0) + 1) (pc' := 119) rfl rfl rfl ho_R rfl rfl rfl rfl (fun Z45 eZ45 => ?_)
              replace H := dz_le H Z45 eZ45
              clear eZ45
              refine wp_s (i := .goto (-39)) (n := 3) (pc' := 80) (st' := []) rfl rfl ?_
              replace H := dz_back H
              exact H
  · replace H := dz_if c2 H
    refine wp_s (i := .aload_n 0) (n := 1) (pc' := 15) (st' := [.ref 1]) rfl rfl ?_
    refine wq_gr (idx := 12) (a := 2) (pc' := 18) rfl rfl ho_R rfl rfl ?_
    refine wq_gr (idx := 56) (a := 3) (pc' := 21) rfl rfl ho_T rfl rfl ?_
    refine wp_s (i := .aload_n 0) (n := 1) (pc' := 22) (st' := [.ref 1, .ref 3]) rfl rfl ?_
    refine wq_gi (idx := 47) (pc' := 25) rfl rfl ho_R rfl rfl ?_
    obtain ⟨k46, H⟩ := dz_ck H
    refine wq_ba (j' := dz_c (s1 1 6 0)) (pc' := 26) rfl (by decide) ha_T_0 rfl k46.1 k46.2 rfl ?_
    refine wp_s (i := .bipush 32) (n := 2) (pc' := 28) (st' := [dz_I 32, dz_I (s1 2 0 (dz_c (s1 1 6 0)))]) rfl rfl ?_
    refine wq_ic (p := dz_c (s1 2 0 (dz_c (s1 1 6 0))) ≠ 32) (tt := 44) (pc' := 31) rfl rfl (cq_ne rfl dk_32) rfl (fun c47 => ?_) (fun c47 => ?_)
    · replace H := dz_it c47 H
      refine wp_s (i := .aload_n 0) (n := 1) (pc' := 45) (st' := [.ref 1]) rfl rfl ?_
      refine wp_s (i := .aload_n 0) (n := 1) (pc' := 46) (st' := [.ref 1, .ref 1]) rfl rfl ?_
      refine wq_gi (idx := 47) (pc' := 49) rfl rfl ho_R rfl rfl ?_
      refine wq_pi (idx := 50) (x := s1 1 6 0) (pc' := 52) rfl rfl rfl ho_R rfl rfl rfl rfl (fun Z48 eZ48 => ?_)
      replace H := dz_le H Z48 eZ48
      clear eZ48
      refine wp_s (i := .aload_n 0) (n := 1) (pc' := 53) (st' := [.ref 1]) rfl rfl ?_
      refine wp_s (i := .aload_n 0) (n := 1) (pc' := 54) (st' := [.ref 1, .ref 1]) rfl rfl ?_
      refine wp_s (i := .aload_n 0) (n := 1) (pc' := 55) (st' := [.ref 1, .ref 1, .ref 1]) rfl rfl ?_
      refine wq_gi (idx := 47) (pc' := 58) rfl rfl ho_R rfl rfl ?_
      refine wq_cv (Dq := D) (r' := mm_r32) (as0 := [dz_I (Z48 1 6 0)]) (rest := [.ref 1]) (ls' := [some (.ref 1), some (dz_I (Z48 1 6 0)), none]) (pc' := 61) rfl rfl rfl rfl ho_R rfl rfl rfl ?_
      refine jw_R_kindAt (X := X) (D := D + 0) (Z48 1 6 0) Z48 (dz_pm (dz_bi H) (fun q49 H => ?_))
      show mm_Wp X (D + 1) mm_r31 61 [some (.ref 1), none] [dz_I q49, .ref 1] (hz_0 Z48) Q
      refine wq_pi (idx := 64) (x := q49) (pc' := 64) rfl rfl rfl ho_R rfl rfl rfl rfl (fun Z50 eZ50 => ?_)
      replace H := dz_le H Z50 eZ50
      clear eZ50
      refine wp_s (i := .aload_n 0) (n := 1) (pc' := 65) (st' := [.ref 1]) rfl rfl ?_
      refine wq_gi (idx := 64) (pc' := 68) rfl rfl ho_R rfl rfl ?_
      refine wp_s (i := .iconst 2) (n := 1) (pc' := 69) (st' := [dz_I 2, dz_I (Z50 1 8 0)]) rfl rfl ?_
      refine dz_jn (P := fun (q65 : dz_Z) => mm_Wp X (D + 1) mm_r31 140 [some (.ref 1), none] [] (hz_0 q65) Q) (dz_bi H) (fun q65 H => ?_) (fun H => ?_)
      · skip
        refine wp_s (i := .aload_n 0) (n := 1) (pc' := 141) (st' := [.ref 1]) rfl rfl ?_
        refine wq_gi (idx := 64) (pc' := 144) rfl rfl ho_R rfl rfl ?_
        refine wp_s (i := .iconst 3) (n := 1) (pc' := 145) (st' := [dz_I 3, dz_I (q65 1 8 0)]) rfl rfl ?_
        refine dz_jn (P := fun (q68 : Int) => mm_Wp X (D + 1) mm_r31 166 [some (.ref 1), none] [dz_I q68] (hz_0 q65) Q) (dz_bi H) (fun q68 H => ?_) (fun H => ?_)
        · skip
          refine wq_st (k := 1) (i := .istore_n 1) (n := 1) (ls' := [some (.ref 1), some (dz_I q68)]) (pc' := 167) rfl rfl rfl rfl rfl ?_
          refine wp_s (i := .aload_n 0) (n := 1) (pc' := 168) (st' := [.ref 1]) rfl rfl ?_
          refine wq_gi (idx := 64) (pc' := 171) rfl rfl ho_R rfl rfl ?_
          refine wq_if (p := dz_c (q65 1 8 0) = 0) (tt := 178) (pc' := 174) rfl rfl (cz_eq rfl) rfl (fun c69 => ?_) (fun c69 => ?_)
          · replace H := dz_it c69 H
            refine wp_s (i := .aload_n 0) (n := 1) (pc' := 179) (st' := [.ref 1]) rfl rfl ?_
            refine wp_s (i := .iconst 1) (n := 1) (pc' := 180) (st' := [dz_I 1, .ref 1]) rfl rfl ?_
            refine wq_cv (Dq := D) (r' := mm_r30) (as0 := [dz_I 1]) (rest := []) (ls' := [some (.ref 1), some (dz_I 1)]) (pc' := 183) rfl rfl rfl rfl ho_R rfl rfl rfl ?_
            refine jw_R_fail (X := X) (D := D + 0) 1 q65 (dz_pm (dz_bi H) (fun q70 H => ?_))
            show mm_Wp X (D + 1) mm_r31 183 [some (.ref 1), some (dz_I q68)] [dz_B q70.1] (hz_0 q70.2) Q
            refine wq_if (p := q70.1 = false) (tt := 190) (pc' := 186) rfl rfl (cb_eq) rfl (fun c71 => ?_) (fun c71 => ?_)
            · replace H := dz_it c71 H
              refine wp_s (i := .iconst 0) (n := 1) (pc' := 191) (st' := [dz_I 0]) rfl rfl ?_
              refine wq_rf rfl rfl ?_
              replace H := dz_out H
              replace H := dz_sm H
              exact H
            · replace H := dz_if c71 H
              refine wp_s (i := .iconst 1) (n := 1) (pc' := 187) (st' := [dz_I 1]) rfl rfl ?_
              refine wp_s (i := .goto 4) (n := 3) (pc' := 191) (st' := [dz_I 1]) rfl rfl ?_
              refine wq_rt rfl rfl ?_
              replace H := dz_out H
              replace H := dz_sm H
              exact H
          · replace H := dz_if c69 H
            refine wp_s (i := .iload_n 1) (n := 1) (pc' := 175) (st' := [dz_I q68]) rfl rfl ?_
            refine wq_if (p := dz_c q68 = 0) (tt := 186) (pc' := 178) rfl rfl (cz_eq rfl) rfl (fun c72 => ?_) (fun c72 => ?_)
            · replace H := dz_it c72 H
              refine wp_s (i := .iconst 1) (n := 1) (pc' := 187) (st' := [dz_I 1]) rfl rfl ?_
              refine wp_s (i := .goto 4) (n := 3) (pc' := 191) (st' := [dz_I 1]) rfl rfl ?_
              refine wq_rt rfl rfl ?_
              replace H := dz_out H
              replace H := dz_sm H
              exact H
            · replace H := dz_if c72 H
              refine wp_s (i := .aload_n 0) (n := 1) (pc' := 179) (st' := [.ref 1]) rfl rfl ?_
              refine wp_s (i := .iconst 1) (n := 1) (pc' := 180) (st' := [dz_I 1, .ref 1]) rfl rfl ?_
              refine wq_cv (Dq := D) (r' := mm_r30) (as0 := [dz_I 1]) (rest := []) (ls' := [some (.ref 1), some (dz_I 1)]) (pc' := 183) rfl rfl rfl rfl ho_R rfl rfl rfl ?_
              refine jw_R_fail (X := X) (D := D + 0) 1 q65 (dz_pm (dz_bi H) (fun q73 H => ?_))
              show mm_Wp X (D + 1) mm_r31 183 [some (.ref 1), some (dz_I q68)] [dz_B q73.1] (hz_0 q73.2) Q
              refine wq_if (p := q73.1 = false) (tt := 190) (pc' := 186) rfl rfl (cb_eq) rfl (fun c74 => ?_) (fun c74 => ?_)
              · replace H := dz_it c74 H
                refine wp_s (i := .iconst 0) (n := 1) (pc' := 191) (st' := [dz_I 0]) rfl rfl ?_
                refine wq_rf rfl rfl ?_
                replace H := dz_out H
                replace H := dz_sm H
                exact H
              · replace H := dz_if c74 H
                refine wp_s (i := .iconst 1) (n := 1) (pc' := 187) (st' := [dz_I 1]) rfl rfl ?_
                refine wp_s (i := .goto 4) (n := 3) (pc' := 191) (st' := [dz_I 1]) rfl rfl ?_
                refine wq_rt rfl rfl ?_
                replace H := dz_out H
                replace H := dz_sm H
                exact H
        · skip
          refine wq_ic (p := dz_c (q65 1 8 0) ≠ 3) (tt := 165) (pc' := 148) rfl rfl (cq_ne rfl dk_3) rfl (fun c75 => ?_) (fun c75 => ?_)
          · replace H := dz_it c75 H
            refine wp_s (i := .iconst 0) (n := 1) (pc' := 166) (st' := [dz_I 0]) rfl rfl ?_
            replace H := dz_sm H
            exact H
          · replace H := dz_if c75 H
            refine wp_s (i := .aload_n 0) (n := 1) (pc' := 149) (st' := [.ref 1]) rfl rfl ?_
            refine wq_gi (idx := 47) (pc' := 152) rfl rfl ho_R rfl rfl ?_
            refine wp_s (i := .aload_n 0) (n := 1) (pc' := 153) (st' := [.ref 1, dz_I (q65 1 6 0)]) rfl rfl ?_
            refine wq_gi (idx := 50) (pc' := 156) rfl rfl ho_R rfl rfl ?_
            refine wq_2 (i := .isub) (z := (q65 1 6 0) - (q65 1 7 0)) (pc' := 157) rfl rfl (op_sub _ _) rfl ?_
            refine wp_s (i := .iconst 3) (n := 1) (pc' := 158) (st' := [dz_I 3, dz_I ((q65 1 6 0) - (q65 1 7 0))]) rfl rfl ?_
            refine wq_ic (p := dz_c ((q65 1 6 0) - (q65 1 7 0)) ≤ 3) (tt := 165) (pc' := 161) rfl rfl (cq_le rfl dk_3) rfl (fun c76 => ?_) (fun c76 => ?_)
            · replace H := dz_it c76 H
              refine wp_s (i := .iconst 0) (n := 1) (pc' := 166) (st' := [dz_I 0]) rfl rfl ?_
              replace H := dz_sm H
              exact H
            · replace H := dz_if c76 H
              refine wp_s (i := .iconst 1) (n := 1) (pc' := 162) (st' := [dz_I 1]) rfl rfl ?_
              refine wp_s (i := .goto 4) (n := 3) (pc' := 166) (st' := [dz_I 1]) rfl rfl ?_
              replace H := dz_sm H
              exact H
      · skip
        refine wq_ic (p := dz_c (Z50 1 8 0) = 2) (tt := 80) (pc' := 72) rfl rfl (cq_eq rfl dk_2) rfl (fun c77 => ?_) (fun c77 => ?_)
        · replace H := dz_it c77 H
          refine dz_lpi (P := fun (s78 : dz_Z) => mm_Wp X (D + 1) mm_r31 80 [some (.ref 1), none] [] (hz_0 s78) Q) (fun s78 H => ?_) 5000 Z50 H
          refine wp_s (i := .aload_n 0) (n := 1) (pc' := 81) (st' := [.ref 1]) rfl rfl ?_
          refine wq_gi (idx := 47) (pc' := 84) rfl rfl ho_R rfl rfl ?_
          refine wp_s (i := .aload_n 0) (n := 1) (pc' := 85) (st' := [.ref 1, dz_I (s78 1 6 0)]) rfl rfl ?_
          refine wq_gr (idx := 12) (a := 2) (pc' := 88) rfl rfl ho_R rfl rfl ?_
          refine wq_gi (idx := 53) (pc' := 91) rfl rfl ho_T rfl rfl ?_
          refine wq_ic (p := dz_c (s78 2 1 0) ≤ dz_c (s78 1 6 0)) (tt := 140) (pc' := 94) rfl rfl (cq_ge rfl rfl) rfl (fun c79 => ?_) (fun c79 => ?_)
          · replace H := dz_it c79 H
            replace H := dz_out H
            replace H := dz_sm H
            exact H
          · replace H := dz_if c79 H
            refine wp_s (i := .aload_n 0) (n := 1) (pc' := 95) (st' := [.ref 1]) rfl rfl ?_
            refine wp_s (i := .aload_n 0) (n := 1) (pc' := 96) (st' := [.ref 1, .ref 1]) rfl rfl ?_
            refine wq_gi (idx := 47) (pc' := 99) rfl rfl ho_R rfl rfl ?_
            refine wq_cv (Dq := D) (r' := mm_r32) (as0 := [dz_I (s78 1 6 0)]) (rest := []) (ls' := [some (.ref 1), some (dz_I (s78 1 6 0)), none]) (pc' := 102) rfl rfl rfl rfl ho_R rfl rfl rfl ?_
            refine jw_R_kindAt (X := X) (D := D + 0) (s78 1 6 0) s78 (dz_pm (dz_bi H) (fun q80 H => ?_))
            show mm_Wp X (D + 1) mm_r31 102 [some (.ref 1), none] [dz_I q80] (hz_0 s78) Q
            refine wp_s (i := .aload_n 0) (n := 1) (pc' := 103) (st' := [.ref 1, dz_I q80]) rfl rfl ?_
            refine wq_gi (idx := 64) (pc' := 106) rfl rfl ho_R rfl rfl ?_
            refine wq_ic (p := dz_c q80 ≠ dz_c (s78 1 8 0)) (tt := 140) (pc' := 109) rfl rfl (cq_ne rfl rfl) rfl (fun c81 => ?_) (fun c81 => ?_)
            · replace H := dz_it c81 H
              replace H := dz_out H
              replace H := dz_sm H
              exact H
            · replace H := dz_if c81 H
              refine wp_s (i := .aload_n 0) (n := 1) (pc' := 110) (st' := [.ref 1]) rfl rfl ?_
              refine wp_s (i := .dup) (n := 1) (pc' := 111) (st' := [.ref 1, .ref 1]) rfl rfl ?_
              refine wq_gi (idx := 47) (pc' := 114) rfl rfl ho_R rfl rfl ?_
              refine wp_s (i := .iconst 1) (n := 1) (pc' := 115) (st' := [dz_I 1, dz_I (s78 1 6 0), .ref 1]) rfl rfl ?_
              refine wq_2 (i := .iadd) (z := (s78 1 6 0) + 1) (pc' := 116) rfl rfl (op_add _ _) rfl ?_
              refine wq_pi (idx := 47) (x := (s78 1 6 0) + 1) (pc' := 119) rfl rfl rfl ho_R rfl rfl rfl rfl (fun Z82 eZ82 => ?_)
              replace H := dz_le H Z82 eZ82
              clear eZ82
              refine wp_s (i := .goto (-39)) (n := 3) (pc' := 80) (st' := []) rfl rfl ?_
              replace H := dz_back H
              exact H
        · replace H := dz_if c77 H
          refine wp_s (i := .aload_n 0) (n := 1) (pc' := 73) (st' := [.ref 1]) rfl rfl ?_
          refine wq_gi (idx := 64) (pc' := 76) rfl rfl ho_R rfl rfl ?_
          refine wp_s (i := .iconst 3) (n := 1) (pc' := 77) (st' := [dz_I 3, dz_I (Z50 1 8 0)]) rfl rfl ?_
          refine wq_ic (p := dz_c (Z50 1 8 0) ≠ 3) (tt := 122) (pc' := 80) rfl rfl (cq_ne rfl dk_3) rfl (fun c83 => ?_) (fun c83 => ?_)
          · replace H := dz_it c83 H
            refine wp_s (i := .aload_n 0) (n := 1) (pc' := 123) (st' := [.ref 1]) rfl rfl ?_
            refine wq_gi (idx := 64) (pc' := 126) rfl rfl ho_R rfl rfl ?_
            refine wp_s (i := .iconst 4) (n := 1) (pc' := 127) (st' := [dz_I 4, dz_I (Z50 1 8 0)]) rfl rfl ?_
            refine wq_ic (p := dz_c (Z50 1 8 0) ≠ 4) (tt := 140) (pc' := 130) rfl rfl (cq_ne rfl dk_4) rfl (fun c84 => ?_) (fun c84 => ?_)
            · replace H := dz_it c84 H
              replace H := dz_sm H
              exact H
            · replace H := dz_if c84 H
              refine wp_s (i := .aload_n 0) (n := 1) (pc' := 131) (st' := [.ref 1]) rfl rfl ?_
              refine wp_s (i := .dup) (n := 1) (pc' := 132) (st' := [.ref 1, .ref 1]) rfl rfl ?_
              refine wq_gi (idx := 47) (pc' := 135) rfl rfl ho_R rfl rfl ?_
              refine wp_s (i := .iconst 1) (n := 1) (pc' := 136) (st' := [dz_I 1, dz_I (Z50 1 6 0), .ref 1]) rfl rfl ?_
              refine wq_2 (i := .iadd) (z := (Z50 1 6 0) + 1) (pc' := 137) rfl rfl (op_add _ _) rfl ?_
              refine wq_pi (idx := 47) (x := (Z50 1 6 0) + 1) (pc' := 140) rfl rfl rfl ho_R rfl rfl rfl rfl (fun Z85 eZ85 => ?_)
              replace H := dz_le H Z85 eZ85
              clear eZ85
              replace H := dz_sm H
              exact H
          · replace H := dz_if c83 H
            refine dz_lpi (P := fun (s86 : dz_Z) => mm_Wp X (D + 1) mm_r31 80 [some (.ref 1), none] [] (hz_0 s86) Q) (fun s86 H => ?_) 5000 Z50 H
            refine wp_s (i := .aload_n 0) (n := 1) (pc' := 81) (st' := [.ref 1]) rfl rfl ?_
            refine wq_gi (idx := 47) (pc' := 84) rfl rfl ho_R rfl rfl ?_
            refine wp_s (i := .aload_n 0) (n := 1) (pc' := 85) (st' := [.ref 1, dz_I (s86 1 6 0)]) rfl rfl ?_
            refine wq_gr (idx := 12) (a := 2) (pc' := 88) rfl rfl ho_R rfl rfl ?_
            refine wq_gi (idx := 53) (pc' := 91) rfl rfl ho_T rfl rfl ?_
            refine wq_ic (p := dz_c (s86 2 1 0) ≤ dz_c (s86 1 6 0)) (tt := 140) (pc' := 94) rfl rfl (cq_ge rfl rfl) rfl (fun c87 => ?_) (fun c87 => ?_)
            · replace H := dz_it c87 H
              replace H := dz_out H
              replace H := dz_sm H
              exact H
            · replace H := dz_if c87 H
              refine wp_s (i := .aload_n 0) (n := 1) (pc' := 95) (st' := [.ref 1]) rfl rfl ?_
              refine wp_s (i := .aload_n 0) (n := 1) (pc' := 96) (st' := [.ref 1, .ref 1]) rfl rfl ?_
              refine wq_gi (idx := 47) (pc' := 99) rfl rfl ho_R rfl rfl ?_
              refine wq_cv (Dq := D) (r' := mm_r32) (as0 := [dz_I (s86 1 6 0)]) (rest := []) (ls' := [some (.ref 1), some (dz_I (s86 1 6 0)), none]) (pc' := 102) rfl rfl rfl rfl ho_R rfl rfl rfl ?_
              refine jw_R_kindAt (X := X) (D := D + 0) (s86 1 6 0) s86 (dz_pm (dz_bi H) (fun q88 H => ?_))
              show mm_Wp X (D + 1) mm_r31 102 [some (.ref 1), none] [dz_I q88] (hz_0 s86) Q
              refine wp_s (i := .aload_n 0) (n := 1) (pc' := 103) (st' := [.ref 1, dz_I q88]) rfl rfl ?_
              refine wq_gi (idx := 64) (pc' := 106) rfl rfl ho_R rfl rfl ?_
              refine wq_ic (p := dz_c q88 ≠ dz_c (s86 1 8 0)) (tt := 140) (pc' := 109) rfl rfl (cq_ne rfl rfl) rfl (fun c89 => ?_) (fun c89 => ?_)
              · replace H := dz_it c89 H
                replace H := dz_out H
                replace H := dz_sm H
                exact H
              · replace H := dz_if c89 H
                refine wp_s (i := .aload_n 0) (n := 1) (pc' := 110) (st' := [.ref 1]) rfl rfl ?_
                refine wp_s (i := .dup) (n := 1) (pc' := 111) (st' := [.ref 1, .ref 1]) rfl rfl ?_
                refine wq_gi (idx := 47) (pc' := 114) rfl rfl ho_R rfl rfl ?_
                refine wp_s (i := .iconst 1) (n := 1) (pc' := 115) (st' := [dz_I 1, dz_I (s86 1 6 0), .ref 1]) rfl rfl ?_
                refine wq_2 (i := .iadd) (z := (s86 1 6 0) + 1) (pc' := 116) rfl rfl (op_add _ _) rfl ?_
                refine wq_pi (idx := 47) (x := (s86 1 6 0) + 1) (pc' := 119) rfl rfl rfl ho_R rfl rfl rfl rfl (fun Z90 eZ90 => ?_)
                replace H := dz_le H Z90 eZ90
                clear eZ90
                refine wp_s (i := .goto (-39)) (n := 3) (pc' := 80) (st' := []) rfl rfl ?_
                replace H := dz_back H
                exact H
    · replace H := dz_if c47 H
      refine wp_s (i := .aload_n 0) (n := 1) (pc' := 32) (st' := [.ref 1]) rfl rfl ?_
      refine wp_s (i := .dup) (n := 1) (pc' := 33) (st' := [.ref 1, .ref 1]) rfl rfl ?_
      refine wq_gi (idx := 47) (pc' := 36) rfl rfl ho_R rfl rfl ?_
      refine wp_s (i := .iconst 1) (n := 1) (pc' := 37) (st' := [dz_I 1, dz_I (s1 1 6 0), .ref 1]) rfl rfl ?_
      refine wq_2 (i := .iadd) (z := (s1 1 6 0) + 1) (pc' := 38) rfl rfl (op_add _ _) rfl ?_
      refine wq_pi (idx := 47) (x := (s1 1 6 0) + 1) (pc' := 41) rfl rfl rfl ho_R rfl rfl rfl rfl (fun Z91 eZ91 => ?_)
      replace H := dz_le H Z91 eZ91
      clear eZ91
      refine wp_s (i := .goto (-41)) (n := 3) (pc' := 0) (st' := []) rfl rfl ?_
      replace H := dz_back H
      exact H
-- 33
def jf_R_numberRead (Z : dz_Z) : Option (Int) := dz_lp (fun (s1 : Int × Int) => if dz_c (Z 1 6 0) ≤ dz_c s1.2 then (some (Sum.inr s1.1)) else (if 0 ≤ dz_c s1.2 ∧ dz_c s1.2 < 320 then some (Sum.inl (((s1.1 * 10) + (Z 2 0 (dz_c s1.2))) - 48, s1.2 + 1)) else none)) 5000 (0, Z 1 7 0)
set_option maxRecDepth 20000 in
theorem jw_R_numberRead {X : Option (List Int32)} {D : Nat} {Q : Option Value → mm_H → Prop} (Z : dz_Z) (H : dz_p (jf_R_numberRead Z) (fun q => Q (some (dz_I q)) (hz_0 Z))) : mm_Wp X D mm_r33 0 [some (.ref 1), none, none] [] (hz_0 Z) Q := by
  unfold jf_R_numberRead at H
  refine wp_s (i := .iconst 0) (n := 1) (pc' := 1) (st' := [dz_I 0]) rfl rfl ?_
  refine wq_st (k := 1) (i := .istore_n 1) (n := 1) (ls' := [some (.ref 1), some (dz_I 0), none]) (pc' := 2) rfl rfl rfl rfl rfl ?_
  refine wp_s (i := .aload_n 0) (n := 1) (pc' := 3) (st' := [.ref 1]) rfl rfl ?_
  refine wq_gi (idx := 50) (pc' := 6) rfl rfl ho_R rfl rfl ?_
  refine wq_st (k := 2) (i := .istore_n 2) (n := 1) (ls' := [some (.ref 1), some (dz_I 0), some (dz_I (Z 1 7 0))]) (pc' := 7) rfl rfl rfl rfl rfl ?_
  refine dz_lpi (P := fun (s1 : Int × Int) => mm_Wp X D mm_r33 7 [some (.ref 1), some (dz_I s1.1), some (dz_I s1.2)] [] (hz_0 Z) Q) (fun s1 H => ?_) 5000 (0, Z 1 7 0) H
  refine wp_s (i := .iload_n 2) (n := 1) (pc' := 8) (st' := [dz_I s1.2]) rfl rfl ?_
  refine wp_s (i := .aload_n 0) (n := 1) (pc' := 9) (st' := [.ref 1, dz_I s1.2]) rfl rfl ?_
  refine wq_gi (idx := 47) (pc' := 12) rfl rfl ho_R rfl rfl ?_
  refine wq_ic (p := dz_c (Z 1 6 0) ≤ dz_c s1.2) (tt := 39) (pc' := 15) rfl rfl (cq_ge rfl rfl) rfl (fun c2 => ?_) (fun c2 => ?_)
  · replace H := dz_it c2 H
    refine wp_s (i := .iload_n 1) (n := 1) (pc' := 40) (st' := [dz_I s1.1]) rfl rfl ?_
    refine wq_ri rfl rfl ?_
    replace H := dz_out H
    replace H := dz_sm H
    exact H
  · replace H := dz_if c2 H
    refine wp_s (i := .iload_n 1) (n := 1) (pc' := 16) (st' := [dz_I s1.1]) rfl rfl ?_
    refine wp_s (i := .bipush 10) (n := 2) (pc' := 18) (st' := [dz_I 10, dz_I s1.1]) rfl rfl ?_
    refine wq_2 (i := .imul) (z := s1.1 * 10) (pc' := 19) rfl rfl (op_mul _ _) rfl ?_
    refine wp_s (i := .aload_n 0) (n := 1) (pc' := 20) (st' := [.ref 1, dz_I (s1.1 * 10)]) rfl rfl ?_
    refine wq_gr (idx := 12) (a := 2) (pc' := 23) rfl rfl ho_R rfl rfl ?_
    refine wq_gr (idx := 56) (a := 3) (pc' := 26) rfl rfl ho_T rfl rfl ?_
    refine wp_s (i := .iload_n 2) (n := 1) (pc' := 27) (st' := [dz_I s1.2, .ref 3, dz_I (s1.1 * 10)]) rfl rfl ?_
    obtain ⟨k3, H⟩ := dz_ck H
    refine wq_ba (j' := dz_c s1.2) (pc' := 28) rfl (by decide) ha_T_0 rfl k3.1 k3.2 rfl ?_
    refine wq_2 (i := .iadd) (z := (s1.1 * 10) + (Z 2 0 (dz_c s1.2))) (pc' := 29) rfl rfl (op_add _ _) rfl ?_
    refine wp_s (i := .bipush 48) (n := 2) (pc' := 31) (st' := [dz_I 48, dz_I ((s1.1 * 10) + (Z 2 0 (dz_c s1.2)))]) rfl rfl ?_
    refine wq_2 (i := .isub) (z := ((s1.1 * 10) + (Z 2 0 (dz_c s1.2))) - 48) (pc' := 32) rfl rfl (op_sub _ _) rfl ?_
    refine wq_st (k := 1) (i := .istore_n 1) (n := 1) (ls' := [some (.ref 1), some (dz_I (((s1.1 * 10) + (Z 2 0 (dz_c s1.2))) - 48)), some (dz_I s1.2)]) (pc' := 33) rfl rfl rfl rfl rfl ?_
    refine wq_inc (k := 2) (d := 1) (x := s1.2) (ls' := [some (.ref 1), some (dz_I (((s1.1 * 10) + (Z 2 0 (dz_c s1.2))) - 48)), some (dz_I (s1.2 + 1))]) (pc' := 36) rfl rfl rfl rfl ?_
    refine wp_s (i := .goto (-29)) (n := 3) (pc' := 7) (st' := []) rfl rfl ?_
    replace H := dz_back H
    exact H
-- 34
def jf_R_isNamed (a1 : Nat) (Z : dz_Z) : Option (Bool) := if dz_c ((Z 1 6 0) - (Z 1 7 0)) = dz_c (jf_len a1) then (dz_lp (fun (s2 : Int) => if dz_c (jf_len a1) ≤ dz_c s2 then (some (Sum.inr true)) else (if 0 ≤ dz_c ((Z 1 7 0) + s2) ∧ dz_c ((Z 1 7 0) + s2) < 320 then if 0 ≤ dz_c s2 ∧ dz_c s2 < jf_len a1 then if dz_c (Z 2 0 (dz_c ((Z 1 7 0) + s2))) = dz_c (jf_chr a1 (dz_c s2)) then (some (Sum.inl (s2 + 1))) else (some (Sum.inr false)) else none else none)) 5000 0) else (some false)
set_option maxRecDepth 20000 in
theorem jw_R_isNamed {X : Option (List Int32)} {D : Nat} {Q : Option Value → mm_H → Prop} (a1 : Nat) (ha1 : a1 < 15) (Z : dz_Z) (H : dz_p (jf_R_isNamed a1 Z) (fun q => Q (some (dz_B q)) (hz_0 Z))) : mm_Wp X (D + 4) mm_r34 0 [some (.ref 1), some (.retAddr (1 + a1)), none] [] (hz_0 Z) Q := by
  unfold jf_R_isNamed at H
  refine wp_s (i := .aload_n 0) (n := 1) (pc' := 1) (st' := [.ref 1]) rfl rfl ?_
  refine wq_gi (idx := 47) (pc' := 4) rfl rfl ho_R rfl rfl ?_
  refine wp_s (i := .aload_n 0) (n := 1) (pc' := 5) (st' := [.ref 1, dz_I (Z 1 6 0)]) rfl rfl ?_
  refine wq_gi (idx := 50) (pc' := 8) rfl rfl ho_R rfl rfl ?_
  refine wq_2 (i := .isub) (z := (Z 1 6 0) - (Z 1 7 0)) (pc' := 9) rfl rfl (op_sub _ _) rfl ?_
  refine wp_s (i := .aload_n 1) (n := 1) (pc' := 10) (st' := [.retAddr (1 + a1), dz_I ((Z 1 6 0) - (Z 1 7 0))]) rfl rfl ?_
  refine wq_ct (Dq := (D + 3)) (r' := mm_r193) (a := 1 + a1) (as0 := []) (rest := [dz_I ((Z 1 6 0) - (Z 1 7 0))]) (ls' := [some (.retAddr (1 + a1))]) (pc' := 13) rfl rfl rfl rfl (hz_tx ha1) rfl rfl rfl ?_
  refine jw_len ha1 ?_
  show mm_Wp X (D + 4) mm_r34 13 [some (.ref 1), some (.retAddr (1 + a1)), none] [dz_I (jf_len a1), dz_I ((Z 1 6 0) - (Z 1 7 0))] (hz_0 Z) Q
  refine wq_ic (p := dz_c ((Z 1 6 0) - (Z 1 7 0)) = dz_c (jf_len a1)) (tt := 18) (pc' := 16) rfl rfl (cq_eq rfl rfl) rfl (fun c1 => ?_) (fun c1 => ?_)
  · replace H := dz_it c1 H
    refine wp_s (i := .iconst 0) (n := 1) (pc' := 19) (st' := [dz_I 0]) rfl rfl ?_
    refine wq_st (k := 2) (i := .istore_n 2) (n := 1) (ls' := [some (.ref 1), some (.retAddr (1 + a1)), some (dz_I 0)]) (pc' := 20) rfl rfl rfl rfl rfl ?_
    refine dz_lpi (P := fun (s2 : Int) => mm_Wp X (D + 4) mm_r34 20 [some (.ref 1), some (.retAddr (1 + a1)), some (dz_I s2)] [] (hz_0 Z) Q) (fun s2 H => ?_) 5000 0 H
    refine wp_s (i := .iload_n 2) (n := 1) (pc' := 21) (st' := [dz_I s2]) rfl rfl ?_
    refine wp_s (i := .aload_n 1) (n := 1) (pc' := 22) (st' := [.retAddr (1 + a1), dz_I s2]) rfl rfl ?_
    refine wq_ct (Dq := (D + 3)) (r' := mm_r193) (a := 1 + a1) (as0 := []) (rest := [dz_I s2]) (ls' := [some (.retAddr (1 + a1))]) (pc' := 25) rfl rfl rfl rfl (hz_tx ha1) rfl rfl rfl ?_
    refine jw_len ha1 ?_
    show mm_Wp X (D + 4) mm_r34 25 [some (.ref 1), some (.retAddr (1 + a1)), some (dz_I s2)] [dz_I (jf_len a1), dz_I s2] (hz_0 Z) Q
    refine wq_ic (p := dz_c (jf_len a1) ≤ dz_c s2) (tt := 58) (pc' := 28) rfl rfl (cq_ge rfl rfl) rfl (fun c3 => ?_) (fun c3 => ?_)
    · replace H := dz_it c3 H
      refine wp_s (i := .iconst 1) (n := 1) (pc' := 59) (st' := [dz_I 1]) rfl rfl ?_
      refine wq_rt rfl rfl ?_
      replace H := dz_out H
      replace H := dz_sm H
      exact H
    · replace H := dz_if c3 H
      refine wp_s (i := .aload_n 0) (n := 1) (pc' := 29) (st' := [.ref 1]) rfl rfl ?_
      refine wq_gr (idx := 12) (a := 2) (pc' := 32) rfl rfl ho_R rfl rfl ?_
      refine wq_gr (idx := 56) (a := 3) (pc' := 35) rfl rfl ho_T rfl rfl ?_
      refine wp_s (i := .aload_n 0) (n := 1) (pc' := 36) (st' := [.ref 1, .ref 3]) rfl rfl ?_
      refine wq_gi (idx := 50) (pc' := 39) rfl rfl ho_R rfl rfl ?_
      refine wp_s (i := .iload_n 2) (n := 1) (pc' := 40) (st' := [dz_I s2, dz_I (Z 1 7 0), .ref 3]) rfl rfl ?_
      refine wq_2 (i := .iadd) (z := (Z 1 7 0) + s2) (pc' := 41) rfl rfl (op_add _ _) rfl ?_
      obtain ⟨k4, H⟩ := dz_ck H
      refine wq_ba (j' := dz_c ((Z 1 7 0) + s2)) (pc' := 42) rfl (by decide) ha_T_0 rfl k4.1 k4.2 rfl ?_
      refine wp_s (i := .aload_n 1) (n := 1) (pc' := 43) (st' := [.retAddr (1 + a1), dz_I (Z 2 0 (dz_c ((Z 1 7 0) + s2)))]) rfl rfl ?_
      refine wp_s (i := .iload_n 2) (n := 1) (pc' := 44) (st' := [dz_I s2, .retAddr (1 + a1), dz_I (Z 2 0 (dz_c ((Z 1 7 0) + s2)))]) rfl rfl ?_
      obtain ⟨k5, H⟩ := dz_ck H
      refine wq_ct (Dq := (D + 3)) (r' := mm_r194) (a := 1 + a1) (as0 := [dz_I s2]) (rest := [dz_I (Z 2 0 (dz_c ((Z 1 7 0) + s2)))]) (ls' := [some (.retAddr (1 + a1)), some (dz_I s2)]) (pc' := 47) rfl rfl rfl rfl (hz_tx ha1) rfl rfl rfl ?_
      refine jw_chr ha1 rfl k5.1 k5.2 ?_
      show mm_Wp X (D + 4) mm_r34 47 [some (.ref 1), some (.retAddr (1 + a1)), some (dz_I s2)] [dz_I (jf_chr a1 (dz_c s2)), dz_I (Z 2 0 (dz_c ((Z 1 7 0) + s2)))] (hz_0 Z) Q
      refine wq_ic (p := dz_c (Z 2 0 (dz_c ((Z 1 7 0) + s2))) = dz_c (jf_chr a1 (dz_c s2))) (tt := 52) (pc' := 50) rfl rfl (cq_eq rfl rfl) rfl (fun c6 => ?_) (fun c6 => ?_)
      · replace H := dz_it c6 H
        refine wq_inc (k := 2) (d := 1) (x := s2) (ls' := [some (.ref 1), some (.retAddr (1 + a1)), some (dz_I (s2 + 1))]) (pc' := 55) rfl rfl rfl rfl ?_
        refine wp_s (i := .goto (-35)) (n := 3) (pc' := 20) (st' := []) rfl rfl ?_
        replace H := dz_back H
        exact H
      · replace H := dz_if c6 H
        refine wp_s (i := .iconst 0) (n := 1) (pc' := 51) (st' := [dz_I 0]) rfl rfl ?_
        refine wq_rf rfl rfl ?_
        replace H := dz_out H
        replace H := dz_sm H
        exact H
  · replace H := dz_if c1 H
    refine wp_s (i := .iconst 0) (n := 1) (pc' := 17) (st' := [dz_I 0]) rfl rfl ?_
    refine wq_rf rfl rfl ?_
    replace H := dz_sm H
    exact H
-- 35
def jf_R_needs (a1 : Int) (Z : dz_Z) : Option (Bool × dz_Z) := Option.bind (jf_R_nextToken Z) fun q1 => if q1.1 = false then (some (false, q1.2)) else (if dz_c (q1.2 1 8 0) = dz_c a1 then (some (true, q1.2)) else (Option.bind (jf_R_fail 2 q1.2) fun q4 => if q4.1 = false then (some (false, q4.2)) else (some (true, q4.2))))
set_option maxRecDepth 20000 in
theorem jw_R_needs {X : Option (List Int32)} {D : Nat} {Q : Option Value → mm_H → Prop} (a1 : Int) (Z : dz_Z) (H : dz_p (jf_R_needs a1 Z) (fun q => Q (some (dz_B q.1)) (hz_0 q.2))) : mm_Wp X (D + 2) mm_r35 0 [some (.ref 1), some (dz_I a1)] [] (hz_0 Z) Q := by
  unfold jf_R_needs at H
  refine wp_s (i := .aload_n 0) (n := 1) (pc' := 1) (st' := [.ref 1]) rfl rfl ?_
  refine wq_cv (Dq := (D + 1)) (r' := mm_r31) (as0 := []) (rest := []) (ls' := [some (.ref 1), none]) (pc' := 4) rfl rfl rfl rfl ho_R rfl rfl rfl ?_
  refine jw_R_nextToken (X := X) (D := D + 0) Z (dz_pm (dz_bi H) (fun q1 H => ?_))
  show mm_Wp X (D + 2) mm_r35 4 [some (.ref 1), some (dz_I a1)] [dz_B q1.1] (hz_0 q1.2) Q
  refine wq_if (p := q1.1 = false) (tt := 27) (pc' := 7) rfl rfl (cb_eq) rfl (fun c2 => ?_) (fun c2 => ?_)
  · replace H := dz_it c2 H
    refine wp_s (i := .iconst 0) (n := 1) (pc' := 28) (st' := [dz_I 0]) rfl rfl ?_
    refine wq_rf rfl rfl ?_
    replace H := dz_sm H
    exact H
  · replace H := dz_if c2 H
    refine wp_s (i := .aload_n 0) (n := 1) (pc' := 8) (st' := [.ref 1]) rfl rfl ?_
    refine wq_gi (idx := 64) (pc' := 11) rfl rfl ho_R rfl rfl ?_
    refine wp_s (i := .iload_n 1) (n := 1) (pc' := 12) (st' := [dz_I a1, dz_I (q1.2 1 8 0)]) rfl rfl ?_
    refine wq_ic (p := dz_c (q1.2 1 8 0) = dz_c a1) (tt := 23) (pc' := 15) rfl rfl (cq_eq rfl rfl) rfl (fun c3 => ?_) (fun c3 => ?_)
    · replace H := dz_it c3 H
      refine wp_s (i := .iconst 1) (n := 1) (pc' := 24) (st' := [dz_I 1]) rfl rfl ?_
      refine wp_s (i := .goto 4) (n := 3) (pc' := 28) (st' := [dz_I 1]) rfl rfl ?_
      refine wq_rt rfl rfl ?_
      replace H := dz_sm H
      exact H
    · replace H := dz_if c3 H
      refine wp_s (i := .aload_n 0) (n := 1) (pc' := 16) (st' := [.ref 1]) rfl rfl ?_
      refine wp_s (i := .iconst 2) (n := 1) (pc' := 17) (st' := [dz_I 2, .ref 1]) rfl rfl ?_
      refine wq_cv (Dq := (D + 1)) (r' := mm_r30) (as0 := [dz_I 2]) (rest := []) (ls' := [some (.ref 1), some (dz_I 2)]) (pc' := 20) rfl rfl rfl rfl ho_R rfl rfl rfl ?_
      refine jw_R_fail (X := X) (D := D + 1) 2 q1.2 (dz_pm (dz_bi H) (fun q4 H => ?_))
      show mm_Wp X (D + 2) mm_r35 20 [some (.ref 1), some (dz_I a1)] [dz_B q4.1] (hz_0 q4.2) Q
      refine wq_if (p := q4.1 = false) (tt := 27) (pc' := 23) rfl rfl (cb_eq) rfl (fun c5 => ?_) (fun c5 => ?_)
      · replace H := dz_it c5 H
        refine wp_s (i := .iconst 0) (n := 1) (pc' := 28) (st' := [dz_I 0]) rfl rfl ?_
        refine wq_rf rfl rfl ?_
        replace H := dz_sm H
        exact H
      · replace H := dz_if c5 H
        refine wp_s (i := .iconst 1) (n := 1) (pc' := 24) (st' := [dz_I 1]) rfl rfl ?_
        refine wp_s (i := .goto 4) (n := 3) (pc' := 28) (st' := [dz_I 1]) rfl rfl ?_
        refine wq_rt rfl rfl ?_
        replace H := dz_sm H
        exact H
-- 36
def jf_R_needsNumber (a1 : Int) (a2 : Int) (Z : dz_Z) : Option (Bool × dz_Z) := Option.bind (jf_R_nextToken Z) fun q1 => if q1.1 = true then (if dz_c (q1.2 1 8 0) = 3 then (Option.bind (jf_R_numberRead q1.2) fun q4 => dz_a (dz_u q1.2 1 9 0 q4) fun Z5 => if dz_c (Z5 1 9 0) < dz_c a1 then (Option.bind (jf_R_fail 3 Z5) fun q7 => if q7.1 = false then (some (false, q7.2)) else (some (true, q7.2))) else (if dz_c (Z5 1 9 0) ≤ dz_c a2 then (some (true, Z5)) else (Option.bind (jf_R_fail 3 Z5) fun q10 => if q10.1 = false then (some (false, q10.2)) else (some (true, q10.2))))) else (Option.bind (jf_R_fail 2 q1.2) fun q12 => some (q12.1, q12.2))) else (some (false, q1.2))
set_option maxRecDepth 20000 in
theorem jw_R_needsNumber {X : Option (List Int32)} {D : Nat} {Q : Option Value → mm_H → Prop} (a1 : Int) (a2 : Int) (Z : dz_Z) (H : dz_p (jf_R_needsNumber a1 a2 Z) (fun q => Q (some (dz_B q.1)) (hz_0 q.2))) : mm_Wp X (D + 2) mm_r36 0 [some (.ref 1), some (dz_I a1), some (dz_I a2)] [] (hz_0 Z) Q := by
  unfold jf_R_needsNumber at H
  refine wp_s (i := .aload_n 0) (n := 1) (pc' := 1) (st' := [.ref 1]) rfl rfl ?_
  refine wq_cv (Dq := (D + 1)) (r' := mm_r31) (as0 := []) (rest := []) (ls' := [some (.ref 1), none]) (pc' := 4) rfl rfl rfl rfl ho_R rfl rfl rfl ?_
  refine jw_R_nextToken (X := X) (D := D + 0) Z (dz_pm (dz_bi H) (fun q1 H => ?_))
  show mm_Wp X (D + 2) mm_r36 4 [some (.ref 1), some (dz_I a1), some (dz_I a2)] [dz_B q1.1] (hz_0 q1.2) Q
  refine wq_if (p := q1.1 = true) (tt := 9) (pc' := 7) rfl rfl (cb_ne) rfl (fun c2 => ?_) (fun c2 => ?_)
  · replace H := dz_it c2 H
    refine wp_s (i := .aload_n 0) (n := 1) (pc' := 10) (st' := [.ref 1]) rfl rfl ?_
    refine wq_gi (idx := 64) (pc' := 13) rfl rfl ho_R rfl rfl ?_
    refine wp_s (i := .iconst 3) (n := 1) (pc' := 14) (st' := [dz_I 3, dz_I (q1.2 1 8 0)]) rfl rfl ?_
    refine wq_ic (p := dz_c (q1.2 1 8 0) = 3) (tt := 23) (pc' := 17) rfl rfl (cq_eq rfl dk_3) rfl (fun c3 => ?_) (fun c3 => ?_)
    · replace H := dz_it c3 H
      refine wp_s (i := .aload_n 0) (n := 1) (pc' := 24) (st' := [.ref 1]) rfl rfl ?_
      refine wp_s (i := .aload_n 0) (n := 1) (pc' := 25) (st' := [.ref 1, .ref 1]) rfl rfl ?_
      refine wq_cv (Dq := (D + 1)) (r' := mm_r33) (as0 := []) (rest := [.ref 1]) (ls' := [some (.ref 1), none, none]) (pc' := 28) rfl rfl rfl rfl ho_R rfl rfl rfl ?_
      refine jw_R_numberRead (X := X) (D := D + 1) q1.2 (dz_pm (dz_bi H) (fun q4 H => ?_))
      show mm_Wp X (D + 2) mm_r36 28 [some (.ref 1), some (dz_I a1), some (dz_I a2)] [dz_I q4, .ref 1] (hz_0 q1.2) Q
      refine wq_pi (idx := 87) (x := q4) (pc' := 31) rfl rfl rfl ho_R rfl rfl rfl rfl (fun Z5 eZ5 => ?_)
      replace H := dz_le H Z5 eZ5
      clear eZ5
      refine wp_s (i := .aload_n 0) (n := 1) (pc' := 32) (st' := [.ref 1]) rfl rfl ?_
      refine wq_gi (idx := 87) (pc' := 35) rfl rfl ho_R rfl rfl ?_
      refine wp_s (i := .iload_n 1) (n := 1) (pc' := 36) (st' := [dz_I a1, dz_I (Z5 1 9 0)]) rfl rfl ?_
      refine wq_ic (p := dz_c (Z5 1 9 0) < dz_c a1) (tt := 47) (pc' := 39) rfl rfl (cq_lt rfl rfl) rfl (fun c6 => ?_) (fun c6 => ?_)
      · replace H := dz_it c6 H
        refine wp_s (i := .aload_n 0) (n := 1) (pc' := 48) (st' := [.ref 1]) rfl rfl ?_
        refine wp_s (i := .iconst 3) (n := 1) (pc' := 49) (st' := [dz_I 3, .ref 1]) rfl rfl ?_
        refine wq_cv (Dq := (D + 1)) (r' := mm_r30) (as0 := [dz_I 3]) (rest := []) (ls' := [some (.ref 1), some (dz_I 3)]) (pc' := 52) rfl rfl rfl rfl ho_R rfl rfl rfl ?_
        refine jw_R_fail (X := X) (D := D + 1) 3 Z5 (dz_pm (dz_bi H) (fun q7 H => ?_))
        show mm_Wp X (D + 2) mm_r36 52 [some (.ref 1), some (dz_I a1), some (dz_I a2)] [dz_B q7.1] (hz_0 q7.2) Q
        refine wq_if (p := q7.1 = false) (tt := 59) (pc' := 55) rfl rfl (cb_eq) rfl (fun c8 => ?_) (fun c8 => ?_)
        · replace H := dz_it c8 H
          refine wp_s (i := .iconst 0) (n := 1) (pc' := 60) (st' := [dz_I 0]) rfl rfl ?_
          refine wq_rf rfl rfl ?_
          replace H := dz_sm H
          exact H
        · replace H := dz_if c8 H
          refine wp_s (i := .iconst 1) (n := 1) (pc' := 56) (st' := [dz_I 1]) rfl rfl ?_
          refine wp_s (i := .goto 4) (n := 3) (pc' := 60) (st' := [dz_I 1]) rfl rfl ?_
          refine wq_rt rfl rfl ?_
          replace H := dz_sm H
          exact H
      · replace H := dz_if c6 H
        refine wp_s (i := .aload_n 0) (n := 1) (pc' := 40) (st' := [.ref 1]) rfl rfl ?_
        refine wq_gi (idx := 87) (pc' := 43) rfl rfl ho_R rfl rfl ?_
        refine wp_s (i := .iload_n 2) (n := 1) (pc' := 44) (st' := [dz_I a2, dz_I (Z5 1 9 0)]) rfl rfl ?_
        refine wq_ic (p := dz_c (Z5 1 9 0) ≤ dz_c a2) (tt := 55) (pc' := 47) rfl rfl (cq_le rfl rfl) rfl (fun c9 => ?_) (fun c9 => ?_)
        · replace H := dz_it c9 H
          refine wp_s (i := .iconst 1) (n := 1) (pc' := 56) (st' := [dz_I 1]) rfl rfl ?_
          refine wp_s (i := .goto 4) (n := 3) (pc' := 60) (st' := [dz_I 1]) rfl rfl ?_
          refine wq_rt rfl rfl ?_
          replace H := dz_sm H
          exact H
        · replace H := dz_if c9 H
          refine wp_s (i := .aload_n 0) (n := 1) (pc' := 48) (st' := [.ref 1]) rfl rfl ?_
          refine wp_s (i := .iconst 3) (n := 1) (pc' := 49) (st' := [dz_I 3, .ref 1]) rfl rfl ?_
          refine wq_cv (Dq := (D + 1)) (r' := mm_r30) (as0 := [dz_I 3]) (rest := []) (ls' := [some (.ref 1), some (dz_I 3)]) (pc' := 52) rfl rfl rfl rfl ho_R rfl rfl rfl ?_
          refine jw_R_fail (X := X) (D := D + 1) 3 Z5 (dz_pm (dz_bi H) (fun q10 H => ?_))
          show mm_Wp X (D + 2) mm_r36 52 [some (.ref 1), some (dz_I a1), some (dz_I a2)] [dz_B q10.1] (hz_0 q10.2) Q
          refine wq_if (p := q10.1 = false) (tt := 59) (pc' := 55) rfl rfl (cb_eq) rfl (fun c11 => ?_) (fun c11 => ?_)
          · replace H := dz_it c11 H
            refine wp_s (i := .iconst 0) (n := 1) (pc' := 60) (st' := [dz_I 0]) rfl rfl ?_
            refine wq_rf rfl rfl ?_
            replace H := dz_sm H
            exact H
          · replace H := dz_if c11 H
            refine wp_s (i := .iconst 1) (n := 1) (pc' := 56) (st' := [dz_I 1]) rfl rfl ?_
            refine wp_s (i := .goto 4) (n := 3) (pc' := 60) (st' := [dz_I 1]) rfl rfl ?_
            refine wq_rt rfl rfl ?_
            replace H := dz_sm H
            exact H
    · replace H := dz_if c3 H
      refine wp_s (i := .aload_n 0) (n := 1) (pc' := 18) (st' := [.ref 1]) rfl rfl ?_
      refine wp_s (i := .iconst 2) (n := 1) (pc' := 19) (st' := [dz_I 2, .ref 1]) rfl rfl ?_
      refine wq_cv (Dq := (D + 1)) (r' := mm_r30) (as0 := [dz_I 2]) (rest := []) (ls' := [some (.ref 1), some (dz_I 2)]) (pc' := 22) rfl rfl rfl rfl ho_R rfl rfl rfl ?_
      refine jw_R_fail (X := X) (D := D + 1) 2 q1.2 (dz_pm (dz_bi H) (fun q12 H => ?_))
      show mm_Wp X (D + 2) mm_r36 22 [some (.ref 1), some (dz_I a1), some (dz_I a2)] [dz_B q12.1] (hz_0 q12.2) Q
      refine wq_rb rfl rfl ?_
      replace H := dz_sm H
      exact H
  · replace H := dz_if c2 H
    refine wp_s (i := .iconst 0) (n := 1) (pc' := 8) (st' := [dz_I 0]) rfl rfl ?_
    refine wq_rf rfl rfl ?_
    replace H := dz_sm H
    exact H
-- 51
def jf_R_isThere (a1 : Int) (Z : dz_Z) : Option (Bool) := if 5 ≤ dz_c a1 then (if dz_c a1 = 20 then (some true) else (if hz_isP (Z 1 1 0).toNat then if dz_c (Z ((Z 1 1 0).toNat) 6 0) ≤ dz_c (a1 - 10) then (some false) else (some true) else none)) else (if hz_isP (Z 1 1 0).toNat then if dz_c (Z ((Z 1 1 0).toNat) 3 0) ≤ dz_c a1 then (some false) else (some true) else none)
set_option maxRecDepth 20000 in
theorem jw_R_isThere {X : Option (List Int32)} {D : Nat} {Q : Option Value → mm_H → Prop} (a1 : Int) (Z : dz_Z) (H : dz_p (jf_R_isThere a1 Z) (fun q => Q (some (dz_B q)) (hz_0 Z))) : mm_Wp X D mm_r51 0 [some (.ref 1), some (dz_I a1)] [] (hz_0 Z) Q := by
  unfold jf_R_isThere at H
  refine wp_s (i := .iload_n 1) (n := 1) (pc' := 1) (st' := [dz_I a1]) rfl rfl ?_
  refine wp_s (i := .iconst 5) (n := 1) (pc' := 2) (st' := [dz_I 5, dz_I a1]) rfl rfl ?_
  refine wq_ic (p := 5 ≤ dz_c a1) (tt := 22) (pc' := 5) rfl rfl (cq_ge rfl dk_5) rfl (fun c1 => ?_) (fun c1 => ?_)
  · replace H := dz_it c1 H
    refine wp_s (i := .iload_n 1) (n := 1) (pc' := 23) (st' := [dz_I a1]) rfl rfl ?_
    refine wp_s (i := .bipush 20) (n := 2) (pc' := 25) (st' := [dz_I 20, dz_I a1]) rfl rfl ?_
    refine wq_ic (p := dz_c a1 = 20) (tt := 42) (pc' := 28) rfl rfl (cq_eq rfl dk_20) rfl (fun c2 => ?_) (fun c2 => ?_)
    · replace H := dz_it c2 H
      refine wp_s (i := .iconst 1) (n := 1) (pc' := 43) (st' := [dz_I 1]) rfl rfl ?_
      refine wp_s (i := .goto 4) (n := 3) (pc' := 47) (st' := [dz_I 1]) rfl rfl ?_
      refine wq_rt rfl rfl ?_
      replace H := dz_sm H
      exact H
    · replace H := dz_if c2 H
      refine wp_s (i := .iload_n 1) (n := 1) (pc' := 29) (st' := [dz_I a1]) rfl rfl ?_
      refine wp_s (i := .bipush 10) (n := 2) (pc' := 31) (st' := [dz_I 10, dz_I a1]) rfl rfl ?_
      refine wq_2 (i := .isub) (z := a1 - 10) (pc' := 32) rfl rfl (op_sub _ _) rfl ?_
      refine wp_s (i := .aload_n 0) (n := 1) (pc' := 33) (st' := [.ref 1, dz_I (a1 - 10)]) rfl rfl ?_
      obtain ⟨k3, H⟩ := dz_ck H
      refine wq_gd (idx := 21) (pc' := 36) rfl rfl ho_R rfl rfl ?_
      refine wq_gi (idx := 165) (pc' := 39) rfl rfl (ho_P k3) rfl rfl ?_
      refine wq_ic (p := dz_c (Z ((Z 1 1 0).toNat) 6 0) ≤ dz_c (a1 - 10)) (tt := 46) (pc' := 42) rfl rfl (cq_ge rfl rfl) rfl (fun c4 => ?_) (fun c4 => ?_)
      · replace H := dz_it c4 H
        refine wp_s (i := .iconst 0) (n := 1) (pc' := 47) (st' := [dz_I 0]) rfl rfl ?_
        refine wq_rf rfl rfl ?_
        replace H := dz_sm H
        exact H
      · replace H := dz_if c4 H
        refine wp_s (i := .iconst 1) (n := 1) (pc' := 43) (st' := [dz_I 1]) rfl rfl ?_
        refine wp_s (i := .goto 4) (n := 3) (pc' := 47) (st' := [dz_I 1]) rfl rfl ?_
        refine wq_rt rfl rfl ?_
        replace H := dz_sm H
        exact H
  · replace H := dz_if c1 H
    refine wp_s (i := .iload_n 1) (n := 1) (pc' := 6) (st' := [dz_I a1]) rfl rfl ?_
    refine wp_s (i := .aload_n 0) (n := 1) (pc' := 7) (st' := [.ref 1, dz_I a1]) rfl rfl ?_
    obtain ⟨k5, H⟩ := dz_ck H
    refine wq_gd (idx := 21) (pc' := 10) rfl rfl ho_R rfl rfl ?_
    refine wq_gi (idx := 149) (pc' := 13) rfl rfl (ho_P k5) rfl rfl ?_
    refine wq_ic (p := dz_c (Z ((Z 1 1 0).toNat) 3 0) ≤ dz_c a1) (tt := 20) (pc' := 16) rfl rfl (cq_ge rfl rfl) rfl (fun c6 => ?_) (fun c6 => ?_)
    · replace H := dz_it c6 H
      refine wp_s (i := .iconst 0) (n := 1) (pc' := 21) (st' := [dz_I 0]) rfl rfl ?_
      refine wq_rf rfl rfl ?_
      replace H := dz_sm H
      exact H
    · replace H := dz_if c6 H
      refine wp_s (i := .iconst 1) (n := 1) (pc' := 17) (st' := [dz_I 1]) rfl rfl ?_
      refine wp_s (i := .goto 4) (n := 3) (pc' := 21) (st' := [dz_I 1]) rfl rfl ?_
      refine wq_rt rfl rfl ?_
      replace H := dz_sm H
      exact H
-- 50
def jf_R_allPartsAreThere (Z : dz_Z) : Option (Bool) := dz_lp (fun (s1 : Int) => if hz_isP (Z 1 1 0).toNat then if dz_c (Z ((Z 1 1 0).toNat) 0 0) ≤ dz_c s1 then (dz_lp (fun (s4 : Int) => if dz_c (Z ((Z 1 1 0).toNat) 3 0) ≤ dz_c s4 then (dz_lp (fun (s6 : Int) => if dz_c (Z ((Z 1 1 0).toNat) 6 0) ≤ dz_c s6 then (some (Sum.inr (Sum.inr (Sum.inr true)))) else (if hz_isS (Z 1 2 0).toNat then if 0 ≤ dz_c s6 ∧ dz_c s6 < 8 then if dz_c (Z ((Z 1 2 0).toNat) 2 (dz_c s6)) ≠ 4 then (some (Sum.inl (s6 + 1))) else (if dz_c (Z ((Z 1 1 0).toNat) 9 (dz_c s6)) < dz_c (Z ((Z 1 1 0).toNat) 6 0) then (some (Sum.inl (s6 + 1))) else (some (Sum.inr (Sum.inr (Sum.inr false))))) else none else none)) 5000 0) else (if 0 ≤ dz_c s4 ∧ dz_c s4 < 5 then Option.bind (jf_R_isThere (Z ((Z 1 1 0).toNat) 4 (dz_c s4)) Z) fun q13 => if q13 = false then (some (Sum.inr (Sum.inr false))) else (Option.bind (jf_R_isThere (Z ((Z 1 1 0).toNat) 5 (dz_c s4)) Z) fun q15 => if q15 = true then (some (Sum.inl (s4 + 1))) else (some (Sum.inr (Sum.inr false)))) else none)) 5000 0) else (if 0 ≤ dz_c s1 ∧ dz_c s1 < 4 then if dz_c (Z ((Z 1 1 0).toNat) 2 (dz_c s1)) < dz_c (Z ((Z 1 1 0).toNat) 3 0) then (some (Sum.inl (s1 + 1))) else (some (Sum.inr false)) else none) else none) 5000 0
set_option maxRecDepth 20000 in
theorem jw_R_allPartsAreThere {X : Option (List Int32)} {D : Nat} {Q : Option Value → mm_H → Prop} (Z : dz_Z) (H : dz_p (jf_R_allPartsAreThere Z) (fun q => Q (some (dz_B q)) (hz_0 Z))) : mm_Wp X (D + 1) mm_r50 0 [some (.ref 1), none] [] (hz_0 Z) Q := by
  unfold jf_R_allPartsAreThere at H
  refine wp_s (i := .iconst 0) (n := 1) (pc' := 1) (st' := [dz_I 0]) rfl rfl ?_
  refine wq_st (k := 1) (i := .istore_n 1) (n := 1) (ls' := [some (.ref 1), some (dz_I 0)]) (pc' := 2) rfl rfl rfl rfl rfl ?_
  refine dz_lpi (P := fun (s1 : Int) => mm_Wp X (D + 1) mm_r50 2 [some (.ref 1), some (dz_I s1)] [] (hz_0 Z) Q) (fun s1 H => ?_) 5000 0 H
  refine wp_s (i := .iload_n 1) (n := 1) (pc' := 3) (st' := [dz_I s1]) rfl rfl ?_
  refine wp_s (i := .aload_n 0) (n := 1) (pc' := 4) (st' := [.ref 1, dz_I s1]) rfl rfl ?_
  obtain ⟨k2, H⟩ := dz_ck H
  refine wq_gd (idx := 21) (pc' := 7) rfl rfl ho_R rfl rfl ?_
  refine wq_gi (idx := 132) (pc' := 10) rfl rfl (ho_P k2) rfl rfl ?_
  refine wq_ic (p := dz_c (Z ((Z 1 1 0).toNat) 0 0) ≤ dz_c s1) (tt := 40) (pc' := 13) rfl rfl (cq_ge rfl rfl) rfl (fun c3 => ?_) (fun c3 => ?_)
  · replace H := dz_it c3 H
    refine wp_s (i := .iconst 0) (n := 1) (pc' := 41) (st' := [dz_I 0]) rfl rfl ?_
    refine wq_st (k := 1) (i := .istore_n 1) (n := 1) (ls' := [some (.ref 1), some (dz_I 0)]) (pc' := 42) rfl rfl rfl rfl rfl ?_
    refine dz_lpi (P := fun (s4 : Int) => mm_Wp X (D + 1) mm_r50 42 [some (.ref 1), some (dz_I s4)] [] (hz_0 Z) Q) (fun s4 H => ?_) 5000 0 H
    refine wp_s (i := .iload_n 1) (n := 1) (pc' := 43) (st' := [dz_I s4]) rfl rfl ?_
    refine wp_s (i := .aload_n 0) (n := 1) (pc' := 44) (st' := [.ref 1, dz_I s4]) rfl rfl ?_
    refine wq_gd (idx := 21) (pc' := 47) rfl rfl ho_R rfl rfl ?_
    refine wq_gi (idx := 149) (pc' := 50) rfl rfl (ho_P k2) rfl rfl ?_
    refine wq_ic (p := dz_c (Z ((Z 1 1 0).toNat) 3 0) ≤ dz_c s4) (tt := 93) (pc' := 53) rfl rfl (cq_ge rfl rfl) rfl (fun c5 => ?_) (fun c5 => ?_)
    · replace H := dz_it c5 H
      refine wp_s (i := .iconst 0) (n := 1) (pc' := 94) (st' := [dz_I 0]) rfl rfl ?_
      refine wq_st (k := 1) (i := .istore_n 1) (n := 1) (ls' := [some (.ref 1), some (dz_I 0)]) (pc' := 95) rfl rfl rfl rfl rfl ?_
      refine dz_lpi (P := fun (s6 : Int) => mm_Wp X (D + 1) mm_r50 95 [some (.ref 1), some (dz_I s6)] [] (hz_0 Z) Q) (fun s6 H => ?_) 5000 0 H
      refine wp_s (i := .iload_n 1) (n := 1) (pc' := 96) (st' := [dz_I s6]) rfl rfl ?_
      refine wp_s (i := .aload_n 0) (n := 1) (pc' := 97) (st' := [.ref 1, dz_I s6]) rfl rfl ?_
      refine wq_gd (idx := 21) (pc' := 100) rfl rfl ho_R rfl rfl ?_
      refine wq_gi (idx := 165) (pc' := 103) rfl rfl (ho_P k2) rfl rfl ?_
      refine wq_ic (p := dz_c (Z ((Z 1 1 0).toNat) 6 0) ≤ dz_c s6) (tt := 146) (pc' := 106) rfl rfl (cq_ge rfl rfl) rfl (fun c7 => ?_) (fun c7 => ?_)
      · replace H := dz_it c7 H
        refine wp_s (i := .iconst 1) (n := 1) (pc' := 147) (st' := [dz_I 1]) rfl rfl ?_
        refine wq_rt rfl rfl ?_
        replace H := dz_out H
        replace H := dz_out H
        replace H := dz_out H
        replace H := dz_sm H
        exact H
      · replace H := dz_if c7 H
        refine wp_s (i := .aload_n 0) (n := 1) (pc' := 107) (st' := [.ref 1]) rfl rfl ?_
        obtain ⟨k8, H⟩ := dz_ck H
        refine wq_gd (idx := 28) (pc' := 110) rfl rfl ho_R rfl rfl ?_
        refine wq_gr (idx := 177) (a := (Z 1 2 0).toNat + 3) (pc' := 113) rfl rfl (ho_S k8) rfl rfl ?_
        refine wp_s (i := .iload_n 1) (n := 1) (pc' := 114) (st' := [dz_I s6, .ref ((Z 1 2 0).toNat + 3)]) rfl rfl ?_
        obtain ⟨k9, H⟩ := dz_ck H
        refine wq_ia (j' := dz_c s6) (pc' := 115) rfl (ha_S_2 k8) rfl k9.1 k9.2 rfl ?_
        refine wp_s (i := .iconst 4) (n := 1) (pc' := 116) (st' := [dz_I 4, dz_I (Z ((Z 1 2 0).toNat) 2 (dz_c s6))]) rfl rfl ?_
        refine wq_ic (p := dz_c (Z ((Z 1 2 0).toNat) 2 (dz_c s6)) ≠ 4) (tt := 140) (pc' := 119) rfl rfl (cq_ne rfl dk_4) rfl (fun c10 => ?_) (fun c10 => ?_)
        · replace H := dz_it c10 H
          refine wq_inc (k := 1) (d := 1) (x := s6) (ls' := [some (.ref 1), some (dz_I (s6 + 1))]) (pc' := 143) rfl rfl rfl rfl ?_
          refine wp_s (i := .goto (-48)) (n := 3) (pc' := 95) (st' := []) rfl rfl ?_
          replace H := dz_back H
          exact H
        · replace H := dz_if c10 H
          refine wp_s (i := .aload_n 0) (n := 1) (pc' := 120) (st' := [.ref 1]) rfl rfl ?_
          refine wq_gd (idx := 21) (pc' := 123) rfl rfl ho_R rfl rfl ?_
          refine wq_gr (idx := 186) (a := (Z 1 1 0).toNat + 7) (pc' := 126) rfl rfl (ho_P k2) rfl rfl ?_
          refine wp_s (i := .iload_n 1) (n := 1) (pc' := 127) (st' := [dz_I s6, .ref ((Z 1 1 0).toNat + 7)]) rfl rfl ?_
          refine wq_ia (j' := dz_c s6) (pc' := 128) rfl (ha_P_9 k2) rfl k9.1 k9.2 rfl ?_
          refine wp_s (i := .aload_n 0) (n := 1) (pc' := 129) (st' := [.ref 1, dz_I (Z ((Z 1 1 0).toNat) 9 (dz_c s6))]) rfl rfl ?_
          refine wq_gd (idx := 21) (pc' := 132) rfl rfl ho_R rfl rfl ?_
          refine wq_gi (idx := 165) (pc' := 135) rfl rfl (ho_P k2) rfl rfl ?_
          refine wq_ic (p := dz_c (Z ((Z 1 1 0).toNat) 9 (dz_c s6)) < dz_c (Z ((Z 1 1 0).toNat) 6 0)) (tt := 140) (pc' := 138) rfl rfl (cq_lt rfl rfl) rfl (fun c11 => ?_) (fun c11 => ?_)
          · replace H := dz_it c11 H
            refine wq_inc (k := 1) (d := 1) (x := s6) (ls' := [some (.ref 1), some (dz_I (s6 + 1))]) (pc' := 143) rfl rfl rfl rfl ?_
            refine wp_s (i := .goto (-48)) (n := 3) (pc' := 95) (st' := []) rfl rfl ?_
            replace H := dz_back H
            exact H
          · replace H := dz_if c11 H
            refine wp_s (i := .iconst 0) (n := 1) (pc' := 139) (st' := [dz_I 0]) rfl rfl ?_
            refine wq_rf rfl rfl ?_
            replace H := dz_out H
            replace H := dz_out H
            replace H := dz_out H
            replace H := dz_sm H
            exact H
    · replace H := dz_if c5 H
      refine wp_s (i := .aload_n 0) (n := 1) (pc' := 54) (st' := [.ref 1]) rfl rfl ?_
      refine wp_s (i := .aload_n 0) (n := 1) (pc' := 55) (st' := [.ref 1, .ref 1]) rfl rfl ?_
      refine wq_gd (idx := 21) (pc' := 58) rfl rfl ho_R rfl rfl ?_
      refine wq_gr (idx := 155) (a := (Z 1 1 0).toNat + 3) (pc' := 61) rfl rfl (ho_P k2) rfl rfl ?_
      refine wp_s (i := .iload_n 1) (n := 1) (pc' := 62) (st' := [dz_I s4, .ref ((Z 1 1 0).toNat + 3), .ref 1]) rfl rfl ?_
      obtain ⟨k12, H⟩ := dz_ck H
      refine wq_ia (j' := dz_c s4) (pc' := 63) rfl (ha_P_4 k2) rfl k12.1 k12.2 rfl ?_
      refine wq_cv (Dq := D) (r' := mm_r51) (as0 := [dz_I (Z ((Z 1 1 0).toNat) 4 (dz_c s4))]) (rest := []) (ls' := [some (.ref 1), some (dz_I (Z ((Z 1 1 0).toNat) 4 (dz_c s4)))]) (pc' := 66) rfl rfl rfl rfl ho_R rfl rfl rfl ?_
      refine jw_R_isThere (X := X) (D := D + 0) (Z ((Z 1 1 0).toNat) 4 (dz_c s4)) Z (dz_pm (dz_bi H) (fun q13 H => ?_))
      show mm_Wp X (D + 1) mm_r50 66 [some (.ref 1), some (dz_I s4)] [dz_B q13] (hz_0 Z) Q
      refine wq_if (p := q13 = false) (tt := 85) (pc' := 69) rfl rfl (cb_eq) rfl (fun c14 => ?_) (fun c14 => ?_)
      · replace H := dz_it c14 H
        refine wp_s (i := .iconst 0) (n := 1) (pc' := 86) (st' := [dz_I 0]) rfl rfl ?_
        refine wq_rf rfl rfl ?_
        replace H := dz_out H
        replace H := dz_out H
        replace H := dz_sm H
        exact H
      · replace H := dz_if c14 H
        refine wp_s (i := .aload_n 0) (n := 1) (pc' := 70) (st' := [.ref 1]) rfl rfl ?_
        refine wp_s (i := .aload_n 0) (n := 1) (pc' := 71) (st' := [.ref 1, .ref 1]) rfl rfl ?_
        refine wq_gd (idx := 21) (pc' := 74) rfl rfl ho_R rfl rfl ?_
        refine wq_gr (idx := 158) (a := (Z 1 1 0).toNat + 4) (pc' := 77) rfl rfl (ho_P k2) rfl rfl ?_
        refine wp_s (i := .iload_n 1) (n := 1) (pc' := 78) (st' := [dz_I s4, .ref ((Z 1 1 0).toNat + 4), .ref 1]) rfl rfl ?_
        refine wq_ia (j' := dz_c s4) (pc' := 79) rfl (ha_P_5 k2) rfl k12.1 k12.2 rfl ?_
        refine wq_cv (Dq := D) (r' := mm_r51) (as0 := [dz_I (Z ((Z 1 1 0).toNat) 5 (dz_c s4))]) (rest := []) (ls' := [some (.ref 1), some (dz_I (Z ((Z 1 1 0).toNat) 5 (dz_c s4)))]) (pc' := 82) rfl rfl rfl rfl ho_R rfl rfl rfl ?_
        refine jw_R_isThere (X := X) (D := D + 0) (Z ((Z 1 1 0).toNat) 5 (dz_c s4)) Z (dz_pm (dz_bi H) (fun q15 H => ?_))
        show mm_Wp X (D + 1) mm_r50 82 [some (.ref 1), some (dz_I s4)] [dz_B q15] (hz_0 Z) Q
        refine wq_if (p := q15 = true) (tt := 87) (pc' := 85) rfl rfl (cb_ne) rfl (fun c16 => ?_) (fun c16 => ?_)
        · replace H := dz_it c16 H
          refine wq_inc (k := 1) (d := 1) (x := s4) (ls' := [some (.ref 1), some (dz_I (s4 + 1))]) (pc' := 90) rfl rfl rfl rfl ?_
          refine wp_s (i := .goto (-48)) (n := 3) (pc' := 42) (st' := []) rfl rfl ?_
          replace H := dz_back H
          exact H
        · replace H := dz_if c16 H
          refine wp_s (i := .iconst 0) (n := 1) (pc' := 86) (st' := [dz_I 0]) rfl rfl ?_
          refine wq_rf rfl rfl ?_
          replace H := dz_out H
          replace H := dz_out H
          replace H := dz_sm H
          exact H
  · replace H := dz_if c3 H
    refine wp_s (i := .aload_n 0) (n := 1) (pc' := 14) (st' := [.ref 1]) rfl rfl ?_
    refine wq_gd (idx := 21) (pc' := 17) rfl rfl ho_R rfl rfl ?_
    refine wq_gr (idx := 143) (a := (Z 1 1 0).toNat + 2) (pc' := 20) rfl rfl (ho_P k2) rfl rfl ?_
    refine wp_s (i := .iload_n 1) (n := 1) (pc' := 21) (st' := [dz_I s1, .ref ((Z 1 1 0).toNat + 2)]) rfl rfl ?_
    obtain ⟨k17, H⟩ := dz_ck H
    refine wq_ia (j' := dz_c s1) (pc' := 22) rfl (ha_P_2 k2) rfl k17.1 k17.2 rfl ?_
    refine wp_s (i := .aload_n 0) (n := 1) (pc' := 23) (st' := [.ref 1, dz_I (Z ((Z 1 1 0).toNat) 2 (dz_c s1))]) rfl rfl ?_
    refine wq_gd (idx := 21) (pc' := 26) rfl rfl ho_R rfl rfl ?_
    refine wq_gi (idx := 149) (pc' := 29) rfl rfl (ho_P k2) rfl rfl ?_
    refine wq_ic (p := dz_c (Z ((Z 1 1 0).toNat) 2 (dz_c s1)) < dz_c (Z ((Z 1 1 0).toNat) 3 0)) (tt := 34) (pc' := 32) rfl rfl (cq_lt rfl rfl) rfl (fun c18 => ?_) (fun c18 => ?_)
    · replace H := dz_it c18 H
      refine wq_inc (k := 1) (d := 1) (x := s1) (ls' := [some (.ref 1), some (dz_I (s1 + 1))]) (pc' := 37) rfl rfl rfl rfl ?_
      refine wp_s (i := .goto (-35)) (n := 3) (pc' := 2) (st' := []) rfl rfl ?_
      replace H := dz_back H
      exact H
    · replace H := dz_if c18 H
      refine wp_s (i := .iconst 0) (n := 1) (pc' := 33) (st' := [dz_I 0]) rfl rfl ?_
      refine wq_rf rfl rfl ?_
      replace H := dz_out H
      replace H := dz_sm H
      exact H
-- 38
def jf_R_readRoof (Z : dz_Z) : Option (Bool × dz_Z) := if hz_isP (Z 1 1 0).toNat then if dz_c (Z ((Z 1 1 0).toNat) 0 0) < 4 then (Option.bind (jf_R_needsNumber 1 9 Z) fun q3 => if q3.1 = true then (if hz_isP (q3.2 1 1 0).toNat then if 0 ≤ dz_c (Z ((Z 1 1 0).toNat) 0 0) ∧ dz_c (Z ((Z 1 1 0).toNat) 0 0) < 4 then dz_a (dz_u q3.2 ((q3.2 1 1 0).toNat) 1 (dz_c (Z ((Z 1 1 0).toNat) 0 0)) (q3.2 1 9 0)) fun Z7 => Option.bind (jf_R_needsNumber 0 4 Z7) fun q8 => if q8.1 = true then (if hz_isP (q8.2 1 1 0).toNat then dz_a (dz_u q8.2 ((q8.2 1 1 0).toNat) 2 (dz_c (Z ((Z 1 1 0).toNat) 0 0)) (q8.2 1 9 0)) fun Z11 => if hz_isP (Z11 1 1 0).toNat then dz_a (dz_u Z11 ((Z11 1 1 0).toNat) 0 0 ((Z11 ((Z11 1 1 0).toNat) 0 0) + 1)) fun Z13 => Option.bind (jf_R_needs 4 Z13) fun q14 => some (q14.1, q14.2) else none else none) else (some (false, q8.2)) else none else none) else (some (false, q3.2))) else (Option.bind (jf_R_fail 5 Z) fun q15 => some (q15.1, q15.2)) else none
set_option maxRecDepth 20000 in
theorem jw_R_readRoof {X : Option (List Int32)} {D : Nat} {Q : Option Value → mm_H → Prop} (Z : dz_Z) (H : dz_p (jf_R_readRoof Z) (fun q => Q (some (dz_B q.1)) (hz_0 q.2))) : mm_Wp X (D + 3) mm_r38 0 [some (.ref 1), none] [] (hz_0 Z) Q := by
  unfold jf_R_readRoof at H
  refine wp_s (i := .aload_n 0) (n := 1) (pc' := 1) (st' := [.ref 1]) rfl rfl ?_
  obtain ⟨k1, H⟩ := dz_ck H
  refine wq_gd (idx := 21) (pc' := 4) rfl rfl ho_R rfl rfl ?_
  refine wq_gi (idx := 132) (pc' := 7) rfl rfl (ho_P k1) rfl rfl ?_
  refine wq_st (k := 1) (i := .istore_n 1) (n := 1) (ls' := [some (.ref 1), some (dz_I (Z ((Z 1 1 0).toNat) 0 0))]) (pc' := 8) rfl rfl rfl rfl rfl ?_
  refine wp_s (i := .iload_n 1) (n := 1) (pc' := 9) (st' := [dz_I (Z ((Z 1 1 0).toNat) 0 0)]) rfl rfl ?_
  refine wp_s (i := .iconst 4) (n := 1) (pc' := 10) (st' := [dz_I 4, dz_I (Z ((Z 1 1 0).toNat) 0 0)]) rfl rfl ?_
  refine wq_ic (p := dz_c (Z ((Z 1 1 0).toNat) 0 0) < 4) (tt := 19) (pc' := 13) rfl rfl (cq_lt rfl dk_4) rfl (fun c2 => ?_) (fun c2 => ?_)
  · replace H := dz_it c2 H
    refine wp_s (i := .aload_n 0) (n := 1) (pc' := 20) (st' := [.ref 1]) rfl rfl ?_
    refine wp_s (i := .iconst 1) (n := 1) (pc' := 21) (st' := [dz_I 1, .ref 1]) rfl rfl ?_
    refine wp_s (i := .bipush 9) (n := 2) (pc' := 23) (st' := [dz_I 9, dz_I 1, .ref 1]) rfl rfl ?_
    refine wq_cv (Dq := (D + 2)) (r' := mm_r36) (as0 := [dz_I 1, dz_I 9]) (rest := []) (ls' := [some (.ref 1), some (dz_I 1), some (dz_I 9)]) (pc' := 26) rfl rfl rfl rfl ho_R rfl rfl rfl ?_
    refine jw_R_needsNumber (X := X) (D := D + 0) 1 9 Z (dz_pm (dz_bi H) (fun q3 H => ?_))
    show mm_Wp X (D + 3) mm_r38 26 [some (.ref 1), some (dz_I (Z ((Z 1 1 0).toNat) 0 0))] [dz_B q3.1] (hz_0 q3.2) Q
    refine wq_if (p := q3.1 = true) (tt := 31) (pc' := 29) rfl rfl (cb_ne) rfl (fun c4 => ?_) (fun c4 => ?_)
    · replace H := dz_it c4 H
      refine wp_s (i := .aload_n 0) (n := 1) (pc' := 32) (st' := [.ref 1]) rfl rfl ?_
      obtain ⟨k5, H⟩ := dz_ck H
      refine wq_gd (idx := 21) (pc' := 35) rfl rfl ho_R rfl rfl ?_
      refine wq_gr (idx := 139) (a := (q3.2 1 1 0).toNat + 1) (pc' := 38) rfl rfl (ho_P k5) rfl rfl ?_
      refine wp_s (i := .iload_n 1) (n := 1) (pc' := 39) (st' := [dz_I (Z ((Z 1 1 0).toNat) 0 0), .ref ((q3.2 1 1 0).toNat + 1)]) rfl rfl ?_
      refine wp_s (i := .aload_n 0) (n := 1) (pc' := 40) (st' := [.ref 1, dz_I (Z ((Z 1 1 0).toNat) 0 0), .ref ((q3.2 1 1 0).toNat + 1)]) rfl rfl ?_
      refine wq_gi (idx := 87) (pc' := 43) rfl rfl ho_R rfl rfl ?_
      obtain ⟨k6, H⟩ := dz_ck H
      refine wq_is (j' := dz_c (Z ((Z 1 1 0).toNat) 0 0)) (x := q3.2 1 9 0) (pc' := 44) rfl (ha_P_1 k5) rfl k6.1 k6.2 rfl (fun Z7 eZ7 => ?_)
      replace H := dz_le H Z7 eZ7
      clear eZ7
      refine wp_s (i := .aload_n 0) (n := 1) (pc' := 45) (st' := [.ref 1]) rfl rfl ?_
      refine wp_s (i := .iconst 0) (n := 1) (pc' := 46) (st' := [dz_I 0, .ref 1]) rfl rfl ?_
      refine wp_s (i := .iconst 4) (n := 1) (pc' := 47) (st' := [dz_I 4, dz_I 0, .ref 1]) rfl rfl ?_
      refine wq_cv (Dq := (D + 2)) (r' := mm_r36) (as0 := [dz_I 0, dz_I 4]) (rest := []) (ls' := [some (.ref 1), some (dz_I 0), some (dz_I 4)]) (pc' := 50) rfl rfl rfl rfl ho_R rfl rfl rfl ?_
      refine jw_R_needsNumber (X := X) (D := D + 0) 0 4 Z7 (dz_pm (dz_bi H) (fun q8 H => ?_))
      show mm_Wp X (D + 3) mm_r38 50 [some (.ref 1), some (dz_I (Z ((Z 1 1 0).toNat) 0 0))] [dz_B q8.1] (hz_0 q8.2) Q
      refine wq_if (p := q8.1 = true) (tt := 55) (pc' := 53) rfl rfl (cb_ne) rfl (fun c9 => ?_) (fun c9 => ?_)
      · replace H := dz_it c9 H
        refine wp_s (i := .aload_n 0) (n := 1) (pc' := 56) (st' := [.ref 1]) rfl rfl ?_
        obtain ⟨k10, H⟩ := dz_ck H
        refine wq_gd (idx := 21) (pc' := 59) rfl rfl ho_R rfl rfl ?_
        refine wq_gr (idx := 143) (a := (q8.2 1 1 0).toNat + 2) (pc' := 62) rfl rfl (ho_P k10) rfl rfl ?_
        refine wp_s (i := .iload_n 1) (n := 1) (pc' := 63) (st' := [dz_I (Z ((Z 1 1 0).toNat) 0 0), .ref ((q8.2 1 1 0).toNat + 2)]) rfl rfl ?_
        refine wp_s (i := .aload_n 0) (n := 1) (pc' := 64) (st' := [.ref 1, dz_I (Z ((Z 1 1 0).toNat) 0 0), .ref ((q8.2 1 1 0).toNat + 2)]) rfl rfl ?_
        refine wq_gi (idx := 87) (pc' := 67) rfl rfl ho_R rfl rfl ?_
        refine wq_is (j' := dz_c (Z ((Z 1 1 0).toNat) 0 0)) (x := q8.2 1 9 0) (pc' := 68) rfl (ha_P_2 k10) rfl k6.1 k6.2 rfl (fun Z11 eZ11 => ?_)
        replace H := dz_le H Z11 eZ11
        clear eZ11
        refine wp_s (i := .aload_n 0) (n := 1) (pc' := 69) (st' := [.ref 1]) rfl rfl ?_
        obtain ⟨k12, H⟩ := dz_ck H
        refine wq_gd (idx := 21) (pc' := 72) rfl rfl ho_R rfl rfl ?_
        refine wp_s (i := .dup) (n := 1) (pc' := 73) (st' := [.ref ((Z11 1 1 0).toNat), .ref ((Z11 1 1 0).toNat)]) rfl rfl ?_
        refine wq_gi (idx := 132) (pc' := 76) rfl rfl (ho_P k12) rfl rfl ?_
        refine wp_s (i := .iconst 1) (n := 1) (pc' := 77) (st' := [dz_I 1, dz_I (Z11 ((Z11 1 1 0).toNat) 0 0), .ref ((Z11 1 1 0).toNat)]) rfl rfl ?_
        refine wq_2 (i := .iadd) (z := (Z11 ((Z11 1 1 0).toNat) 0 0) + 1) (pc' := 78) rfl rfl (op_add _ _) rfl ?_
        refine wq_pi (idx := 132) (x := (Z11 ((Z11 1 1 0).toNat) 0 0) + 1) (pc' := 81) rfl rfl rfl (ho_P k12) rfl rfl rfl rfl (fun Z13 eZ13 => ?_)
        replace H := dz_le H Z13 eZ13
        clear eZ13
        refine wp_s (i := .aload_n 0) (n := 1) (pc' := 82) (st' := [.ref 1]) rfl rfl ?_
        refine wp_s (i := .iconst 4) (n := 1) (pc' := 83) (st' := [dz_I 4, .ref 1]) rfl rfl ?_
        refine wq_cv (Dq := (D + 2)) (r' := mm_r35) (as0 := [dz_I 4]) (rest := []) (ls' := [some (.ref 1), some (dz_I 4)]) (pc' := 86) rfl rfl rfl rfl ho_R rfl rfl rfl ?_
        refine jw_R_needs (X := X) (D := D + 0) 4 Z13 (dz_pm (dz_bi H) (fun q14 H => ?_))
        show mm_Wp X (D + 3) mm_r38 86 [some (.ref 1), some (dz_I (Z ((Z 1 1 0).toNat) 0 0))] [dz_B q14.1] (hz_0 q14.2) Q
        refine wq_rb rfl rfl ?_
        replace H := dz_sm H
        exact H
      · replace H := dz_if c9 H
        refine wp_s (i := .iconst 0) (n := 1) (pc' := 54) (st' := [dz_I 0]) rfl rfl ?_
        refine wq_rf rfl rfl ?_
        replace H := dz_sm H
        exact H
    · replace H := dz_if c4 H
      refine wp_s (i := .iconst 0) (n := 1) (pc' := 30) (st' := [dz_I 0]) rfl rfl ?_
      refine wq_rf rfl rfl ?_
      replace H := dz_sm H
      exact H
  · replace H := dz_if c2 H
    refine wp_s (i := .aload_n 0) (n := 1) (pc' := 14) (st' := [.ref 1]) rfl rfl ?_
    refine wp_s (i := .iconst 5) (n := 1) (pc' := 15) (st' := [dz_I 5, .ref 1]) rfl rfl ?_
    refine wq_cv (Dq := (D + 2)) (r' := mm_r30) (as0 := [dz_I 5]) (rest := []) (ls' := [some (.ref 1), some (dz_I 5)]) (pc' := 18) rfl rfl rfl rfl ho_R rfl rfl rfl ?_
    refine jw_R_fail (X := X) (D := D + 2) 5 Z (dz_pm (dz_bi H) (fun q15 H => ?_))
    show mm_Wp X (D + 3) mm_r38 18 [some (.ref 1), some (dz_I (Z ((Z 1 1 0).toNat) 0 0))] [dz_B q15.1] (hz_0 q15.2) Q
    refine wq_rb rfl rfl ?_
    replace H := dz_sm H
    exact H
