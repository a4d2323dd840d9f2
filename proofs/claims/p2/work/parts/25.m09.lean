-- 113
def jf_O_keptImages (Z : dz_Z) : Option (Int) := dz_lp (fun (s1 : Int × Int) => if 2 ≤ dz_c s1.2 then (some (Sum.inr s1.1)) else (if 0 ≤ dz_c s1.2 ∧ dz_c s1.2 < 2 then Option.bind (α := Int) (if dz_c (Z (68 + 19 * Int.toNat (dz_c s1.2)) 2 0) = 0 then (some 0) else (some 1)) (fun (q5 : Int) => some (Sum.inl (s1.1 + q5, s1.2 + 1))) else none)) 5000 (0, 0)
set_option maxRecDepth 20000 in
theorem jw_O_keptImages {X : Option (List Int32)} {D : Nat} {Q : Option Value → mm_H → Prop} (Z : dz_Z) (H : dz_p (jf_O_keptImages Z) (fun q => Q (some (dz_I q)) (hz_0 Z))) : mm_Wp X D mm_r113 0 [some (.ref 0), none, none] [] (hz_0 Z) Q := by
  unfold jf_O_keptImages at H
  refine wp_s (i := .iconst 0) (n := 1) (pc' := 1) (st' := [dz_I 0]) rfl rfl ?_
  refine wq_st (k := 1) (i := .istore_n 1) (n := 1) (ls' := [some (.ref 0), some (dz_I 0), none]) (pc' := 2) rfl rfl rfl rfl rfl ?_
  refine wp_s (i := .iconst 0) (n := 1) (pc' := 3) (st' := [dz_I 0]) rfl rfl ?_
  refine wq_st (k := 2) (i := .istore_n 2) (n := 1) (ls' := [some (.ref 0), some (dz_I 0), some (dz_I 0)]) (pc' := 4) rfl rfl rfl rfl rfl ?_
  refine dz_lpi (P := fun (s1 : Int × Int) => mm_Wp X D mm_r113 4 [some (.ref 0), some (dz_I s1.1), some (dz_I s1.2)] [] (hz_0 Z) Q) (fun s1 H => ?_) 5000 (0, 0) H
  refine wp_s (i := .iload_n 2) (n := 1) (pc' := 5) (st' := [dz_I s1.2]) rfl rfl ?_
  refine wp_s (i := .iconst 2) (n := 1) (pc' := 6) (st' := [dz_I 2, dz_I s1.2]) rfl rfl ?_
  refine wq_ic (p := 2 ≤ dz_c s1.2) (tt := 35) (pc' := 9) rfl rfl (cq_ge rfl dk_2) rfl (fun c2 => ?_) (fun c2 => ?_)
  · replace H := dz_it c2 H
    refine wp_s (i := .iload_n 1) (n := 1) (pc' := 36) (st' := [dz_I s1.1]) rfl rfl ?_
    refine wq_ri rfl rfl ?_
    replace H := dz_out H
    replace H := dz_sm H
    exact H
  · replace H := dz_if c2 H
    refine wp_s (i := .iload_n 1) (n := 1) (pc' := 10) (st' := [dz_I s1.1]) rfl rfl ?_
    refine wp_s (i := .aload_n 0) (n := 1) (pc' := 11) (st' := [.ref 0, dz_I s1.1]) rfl rfl ?_
    refine wq_gr (idx := 58) (a := 66) (pc' := 14) rfl rfl ho_O rfl rfl ?_
    refine wp_s (i := .iload_n 2) (n := 1) (pc' := 15) (st' := [dz_I s1.2, .ref 66, dz_I s1.1]) rfl rfl ?_
    obtain ⟨k3, H⟩ := dz_ck H
    refine wq_aa (j' := dz_c s1.2) (a := 68 + 19 * Int.toNat (dz_c s1.2)) (pc' := 16) rfl (by decide) ha_O_7 rfl k3.1 k3.2 (hr_I k3.1 k3.2) rfl ?_
    refine wq_gi (idx := 104) (pc' := 19) rfl rfl (ho_I (hi_I k3.1 k3.2)) rfl rfl ?_
    refine dz_jn (P := fun (q5 : Int) => mm_Wp X D mm_r113 27 [some (.ref 0), some (dz_I s1.1), some (dz_I s1.2)] [dz_I q5, dz_I s1.1] (hz_0 Z) Q) (dz_bi H) (fun q5 H => ?_) (fun H => ?_)
    · skip
      refine wq_2 (i := .iadd) (z := s1.1 + q5) (pc' := 28) rfl rfl (op_add _ _) rfl ?_
      refine wq_st (k := 1) (i := .istore_n 1) (n := 1) (ls' := [some (.ref 0), some (dz_I (s1.1 + q5)), some (dz_I s1.2)]) (pc' := 29) rfl rfl rfl rfl rfl ?_
      refine wq_inc (k := 2) (d := 1) (x := s1.2) (ls' := [some (.ref 0), some (dz_I (s1.1 + q5)), some (dz_I (s1.2 + 1))]) (pc' := 32) rfl rfl rfl rfl ?_
      refine wp_s (i := .goto (-28)) (n := 3) (pc' := 4) (st' := []) rfl rfl ?_
      replace H := dz_back H
      exact H
    · skip
      refine wq_if (p := dz_c (Z (68 + 19 * Int.toNat (dz_c s1.2)) 2 0) = 0) (tt := 26) (pc' := 22) rfl rfl (cz_eq rfl) rfl (fun c6 => ?_) (fun c6 => ?_)
      · replace H := dz_it c6 H
        refine wp_s (i := .iconst 0) (n := 1) (pc' := 27) (st' := [dz_I 0, dz_I s1.1]) rfl rfl ?_
        replace H := dz_sm H
        exact H
      · replace H := dz_if c6 H
        refine wp_s (i := .iconst 1) (n := 1) (pc' := 23) (st' := [dz_I 1, dz_I s1.1]) rfl rfl ?_
        refine wp_s (i := .goto 4) (n := 3) (pc' := 27) (st' := [dz_I 1, dz_I s1.1]) rfl rfl ?_
        replace H := dz_sm H
        exact H
-- 102
def jf_O_count (a1 : Int) (Z : dz_Z) : Option (Int) := if dz_c a1 = 0 then (if hz_isS (Z 0 3 0).toNat then Option.bind (jf_O_sum ((Z 0 3 0).toNat) 1 5 Z) fun q3 => some q3 else none) else (if dz_c a1 = 1 then (if hz_isP (Z 0 2 0).toNat then Option.bind (jf_F_brokenSpouts 46 ((Z 0 2 0).toNat) Z) fun q6 => Option.bind (jf_J_bitCount q6) fun q7 => some q7 else none) else (if dz_c a1 = 2 then (Option.bind (jf_O_keptImages Z) fun q9 => some q9) else (if dz_c a1 = 3 then (some (Z 2 1 0)) else (if dz_c a1 = 4 then (Option.bind (jf_H_isNothing (106 + 2 * Int.toNat 0) Z) fun q12 => if q12 = false then (some (Z (106 + 2 * Int.toNat 0) 2 0)) else (some (-4))) else (some (-1))))))
set_option maxRecDepth 20000 in
theorem jw_O_count {X : Option (List Int32)} {D : Nat} {Q : Option Value → mm_H → Prop} (a1 : Int) (Z : dz_Z) (H : dz_p (jf_O_count a1 Z) (fun q => Q (some (dz_I q)) (hz_0 Z))) : mm_Wp X (D + 2) mm_r102 0 [some (.ref 0), some (dz_I a1)] [] (hz_0 Z) Q := by
  unfold jf_O_count at H
  refine wp_s (i := .iload_n 1) (n := 1) (pc' := 1) (st' := [dz_I a1]) rfl rfl ?_
  by_cases c1 : dz_c a1 = 0
  · replace H := dz_it c1 H
    refine wq_ts (x' := dz_c a1) (tt := 36) rfl rfl (by rw [c1]; rfl) ?_
    refine wp_s (i := .aload_n 0) (n := 1) (pc' := 37) (st' := [.ref 0]) rfl rfl ?_
    obtain ⟨k2, H⟩ := dz_ck H
    refine wq_gd (idx := 31) (pc' := 40) rfl rfl ho_O rfl rfl ?_
    refine wq_gr (idx := 143) (a := (Z 0 3 0).toNat + 2) (pc' := 43) rfl rfl (ho_S k2) rfl rfl ?_
    refine wq_cs (Dq := (D + 1)) (r' := mm_r111) (as0 := [.ref ((Z 0 3 0).toNat + 2)]) (rest := []) (ls' := [some (.ref ((Z 0 3 0).toNat + 2)), none, none, none, none, none]) (pc' := 46) rfl rfl (by decide) rfl rfl rfl rfl rfl ?_
    refine jw_O_sum (X := X) (D := D + 1) ((Z 0 3 0).toNat + 2) ((Z 0 3 0).toNat) 1 5 (ha_S_1 k2) Z (dz_pm (dz_bi H) (fun q3 H => ?_))
    show mm_Wp X (D + 2) mm_r102 46 [some (.ref 0), some (dz_I a1)] [dz_I q3] (hz_0 Z) Q
    refine wq_ri rfl rfl ?_
    replace H := dz_sm H
    exact H
  · replace H := dz_if c1 H
    by_cases c4 : dz_c a1 = 1
    · replace H := dz_it c4 H
      refine wq_ts (x' := dz_c a1) (tt := 47) rfl rfl (by rw [c4]; rfl) ?_
      refine wp_s (i := .aload_n 0) (n := 1) (pc' := 48) (st' := [.ref 0]) rfl rfl ?_
      refine wq_gr (idx := 38) (a := 46) (pc' := 51) rfl rfl ho_O rfl rfl ?_
      refine wp_s (i := .aload_n 0) (n := 1) (pc' := 52) (st' := [.ref 0, .ref 46]) rfl rfl ?_
      obtain ⟨k5, H⟩ := dz_ck H
      refine wq_gd (idx := 24) (pc' := 55) rfl rfl ho_O rfl rfl ?_
      refine wq_cv (Dq := (D + 1)) (r' := mm_r24) (as0 := [.ref ((Z 0 2 0).toNat)]) (rest := []) (ls' := [some (.ref 46), some (.ref ((Z 0 2 0).toNat)), none, none]) (pc' := 58) rfl rfl rfl rfl (ho_F (Or.inl rfl)) rfl rfl rfl ?_
      refine jw_F_brokenSpouts (X := X) (D := D + 0) 46 (Or.inl rfl) ((Z 0 2 0).toNat) k5 Z (dz_pm (dz_bi H) (fun q6 H => ?_))
      show mm_Wp X (D + 2) mm_r102 58 [some (.ref 0), some (dz_I a1)] [dz_I q6] (hz_0 Z) Q
      refine wq_cs (Dq := (D + 1)) (r' := mm_r192) (as0 := [dz_I q6]) (rest := []) (ls' := [some (dz_I q6)]) (pc' := 61) rfl rfl (by decide) rfl rfl rfl rfl rfl ?_
      refine jw_J_bitCount (X := X) (D := D + 1) q6 Z (dz_pm (dz_bi H) (fun q7 H => ?_))
      show mm_Wp X (D + 2) mm_r102 61 [some (.ref 0), some (dz_I a1)] [dz_I q7] (hz_0 Z) Q
      refine wq_ri rfl rfl ?_
      replace H := dz_sm H
      exact H
    · replace H := dz_if c4 H
      by_cases c8 : dz_c a1 = 2
      · replace H := dz_it c8 H
        refine wq_ts (x' := dz_c a1) (tt := 62) rfl rfl (by rw [c8]; rfl) ?_
        refine wp_s (i := .aload_n 0) (n := 1) (pc' := 63) (st' := [.ref 0]) rfl rfl ?_
        refine wq_cv (Dq := (D + 1)) (r' := mm_r113) (as0 := []) (rest := []) (ls' := [some (.ref 0), none, none]) (pc' := 66) rfl rfl rfl rfl ho_O rfl rfl rfl ?_
        refine jw_O_keptImages (X := X) (D := D + 1) Z (dz_pm (dz_bi H) (fun q9 H => ?_))
        show mm_Wp X (D + 2) mm_r102 66 [some (.ref 0), some (dz_I a1)] [dz_I q9] (hz_0 Z) Q
        refine wq_ri rfl rfl ?_
        replace H := dz_sm H
        exact H
      · replace H := dz_if c8 H
        by_cases c10 : dz_c a1 = 3
        · replace H := dz_it c10 H
          refine wq_ts (x' := dz_c a1) (tt := 67) rfl rfl (by rw [c10]; rfl) ?_
          refine wp_s (i := .aload_n 0) (n := 1) (pc' := 68) (st' := [.ref 0]) rfl rfl ?_
          refine wq_gr (idx := 20) (a := 2) (pc' := 71) rfl rfl ho_O rfl rfl ?_
          refine wq_gi (idx := 70) (pc' := 74) rfl rfl ho_T rfl rfl ?_
          refine wq_ri rfl rfl ?_
          replace H := dz_sm H
          exact H
        · replace H := dz_if c10 H
          by_cases c11 : dz_c a1 = 4
          · replace H := dz_it c11 H
            refine wq_ts (x' := dz_c a1) (tt := 75) rfl rfl (by rw [c11]; rfl) ?_
            refine wp_s (i := .aload_n 0) (n := 1) (pc' := 76) (st' := [.ref 0]) rfl rfl ?_
            refine wq_gr (idx := 64) (a := 67) (pc' := 79) rfl rfl ho_O rfl rfl ?_
            refine wp_s (i := .iconst 0) (n := 1) (pc' := 80) (st' := [dz_I 0, .ref 67]) rfl rfl ?_
            refine wq_aa (j' := 0) (a := 106 + 2 * Int.toNat 0) (pc' := 81) rfl (by decide) ha_O_8 dk_0 (by decide) (by decide) (hr_H (by decide) (by decide)) rfl ?_
            refine wq_cv (Dq := (D + 1)) (r' := mm_r58) (as0 := []) (rest := []) (ls' := [some (.ref (106 + 2 * Int.toNat 0))]) (pc' := 84) rfl rfl rfl rfl (ho_H (hi_H (by decide) (by decide))) rfl rfl rfl ?_
            refine jw_H_isNothing (X := X) (D := D + 1) (106 + 2 * Int.toNat 0) (hi_H (by decide) (by decide)) Z (dz_pm (dz_bi H) (fun q12 H => ?_))
            show mm_Wp X (D + 2) mm_r102 84 [some (.ref 0), some (dz_I a1)] [dz_B q12] (hz_0 Z) Q
            refine wq_if (p := q12 = false) (tt := 92) (pc' := 87) rfl rfl (cb_eq) rfl (fun c13 => ?_) (fun c13 => ?_)
            · replace H := dz_it c13 H
              refine wp_s (i := .aload_n 0) (n := 1) (pc' := 93) (st' := [.ref 0]) rfl rfl ?_
              refine wq_gr (idx := 64) (a := 67) (pc' := 96) rfl rfl ho_O rfl rfl ?_
              refine wp_s (i := .iconst 0) (n := 1) (pc' := 97) (st' := [dz_I 0, .ref 67]) rfl rfl ?_
              refine wq_aa (j' := 0) (a := 106 + 2 * Int.toNat 0) (pc' := 98) rfl (by decide) ha_O_8 dk_0 (by decide) (by decide) (hr_H (by decide) (by decide)) rfl ?_
              refine wq_gi (idx := 337) (pc' := 101) rfl rfl (ho_H (hi_H (by decide) (by decide))) rfl rfl ?_
              refine wq_ri rfl rfl ?_
              replace H := dz_sm H
              exact H
            · replace H := dz_if c13 H
              refine wp_s (i := .bipush (-4)) (n := 2) (pc' := 89) (st' := [dz_I (-4)]) rfl rfl ?_
              refine wp_s (i := .goto 12) (n := 3) (pc' := 101) (st' := [dz_I (-4)]) rfl rfl ?_
              refine wq_ri rfl rfl ?_
              replace H := dz_sm H
              exact H
          · replace H := dz_if c11 H
            refine wq_ts (x' := dz_c a1) (tt := 102) rfl rfl (by unfold mm_sw; rw [if_pos (by omega)]; rfl) ?_
            refine wp_s (i := .iconst (-1)) (n := 1) (pc' := 103) (st' := [dz_I (-1)]) rfl rfl ?_
            refine wq_ri rfl rfl ?_
            replace H := dz_sm H
            exact H
-- 121
def jf_M_feed (a1 : Int) (Z : dz_Z) : Option (Int × dz_Z) := if dz_c ((Z 114 22 0) + 8) ≤ 320 then (dz_lp (fun (s2 : Int × dz_Z) => if dz_c s2.1 < 0 then (some (Sum.inr (s2.2 114 22 0, s2.2))) else (if 0 ≤ dz_c (s2.2 114 22 0) ∧ dz_c (s2.2 114 22 0) < 320 then dz_a (dz_u s2.2 114 21 (dz_c (s2.2 114 22 0)) (dz_an (dz_li (dz_lsr a1 s2.1)) 255)) fun Z5 => dz_a (dz_u Z5 114 22 0 ((Z5 114 22 0) + 1)) fun Z6 => some (Sum.inl (s2.1 + (-8), Z6)) else none)) 5000 (56, Z)) else (some ((-3), Z))
set_option maxRecDepth 20000 in
theorem jw_M_feed {X : Option (List Int32)} {D : Nat} {Q : Option Value → mm_H → Prop} (a1 : Int) (Z : dz_Z) (H : dz_p (jf_M_feed a1 Z) (fun q => Q (some (dz_I q.1)) (hz_0 q.2))) : mm_Wp X D mm_r121 0 [some (.ref 114), some (dz_J a1), none, none] [] (hz_0 Z) Q := by
  unfold jf_M_feed at H
  refine wp_s (i := .aload_n 0) (n := 1) (pc' := 1) (st' := [.ref 114]) rfl rfl ?_
  refine wq_gi (idx := 77) (pc' := 4) rfl rfl ho_M rfl rfl ?_
  refine wp_s (i := .bipush 8) (n := 2) (pc' := 6) (st' := [dz_I 8, dz_I (Z 114 22 0)]) rfl rfl ?_
  refine wq_2 (i := .iadd) (z := (Z 114 22 0) + 8) (pc' := 7) rfl rfl (op_add _ _) rfl ?_
  refine wp_s (i := .sipush 320) (n := 3) (pc' := 10) (st' := [dz_I 320, dz_I ((Z 114 22 0) + 8)]) rfl rfl ?_
  refine wq_ic (p := dz_c ((Z 114 22 0) + 8) ≤ 320) (tt := 16) (pc' := 13) rfl rfl (cq_le rfl dk_320) rfl (fun c1 => ?_) (fun c1 => ?_)
  · replace H := dz_it c1 H
    refine wp_s (i := .bipush 56) (n := 2) (pc' := 18) (st' := [dz_I 56]) rfl rfl ?_
    refine wq_st (k := 3) (i := .istore_n 3) (n := 1) (ls' := [some (.ref 114), some (dz_J a1), none, some (dz_I 56)]) (pc' := 19) rfl rfl rfl rfl rfl ?_
    refine dz_lpi (P := fun (s2 : Int × dz_Z) => mm_Wp X D mm_r121 19 [some (.ref 114), some (dz_J a1), none, some (dz_I s2.1)] [] (hz_0 s2.2) Q) (fun s2 H => ?_) 5000 (56, Z) H
    refine wp_s (i := .iload_n 3) (n := 1) (pc' := 20) (st' := [dz_I s2.1]) rfl rfl ?_
    refine wq_if (p := dz_c s2.1 < 0) (tt := 56) (pc' := 23) rfl rfl (cz_lt rfl) rfl (fun c3 => ?_) (fun c3 => ?_)
    · replace H := dz_it c3 H
      refine wp_s (i := .aload_n 0) (n := 1) (pc' := 57) (st' := [.ref 114]) rfl rfl ?_
      refine wq_gi (idx := 77) (pc' := 60) rfl rfl ho_M rfl rfl ?_
      refine wq_ri rfl rfl ?_
      replace H := dz_out H
      replace H := dz_sm H
      exact H
    · replace H := dz_if c3 H
      refine wp_s (i := .aload_n 0) (n := 1) (pc' := 24) (st' := [.ref 114]) rfl rfl ?_
      refine wq_gr (idx := 43) (a := 126) (pc' := 27) rfl rfl ho_M rfl rfl ?_
      refine wp_s (i := .aload_n 0) (n := 1) (pc' := 28) (st' := [.ref 114, .ref 126]) rfl rfl ?_
      refine wq_gi (idx := 77) (pc' := 31) rfl rfl ho_M rfl rfl ?_
      refine wp_s (i := .lload_n 1) (n := 1) (pc' := 32) (st' := [dz_J a1, dz_I (s2.2 114 22 0), .ref 126]) rfl rfl ?_
      refine wp_s (i := .iload_n 3) (n := 1) (pc' := 33) (st' := [dz_I s2.1, dz_J a1, dz_I (s2.2 114 22 0), .ref 126]) rfl rfl ?_
      refine wq_4 (i := .lshr) (v' := dz_J (dz_lsr a1 s2.1)) (pc' := 34) rfl rfl (ol_shr _ _) rfl ?_
      refine wq_3 (i := .l2i) (v' := dz_I (dz_li (dz_lsr a1 s2.1))) (pc' := 35) rfl rfl (oq_l2i _) rfl ?_
      refine wp_s (i := .sipush 255) (n := 3) (pc' := 38) (st' := [dz_I 255, dz_I (dz_li (dz_lsr a1 s2.1)), dz_I (s2.2 114 22 0), .ref 126]) rfl rfl ?_
      refine wq_2 (i := .iand) (z := dz_an (dz_li (dz_lsr a1 s2.1)) 255) (pc' := 39) rfl rfl (op_and _ _) rfl ?_
      obtain ⟨k4, H⟩ := dz_ck H
      refine wq_is (j' := dz_c (s2.2 114 22 0)) (x := dz_an (dz_li (dz_lsr a1 s2.1)) 255) (pc' := 40) rfl ha_M_21 rfl k4.1 k4.2 rfl (fun Z5 eZ5 => ?_)
      replace H := dz_le H Z5 eZ5
      clear eZ5
      refine wp_s (i := .aload_n 0) (n := 1) (pc' := 41) (st' := [.ref 114]) rfl rfl ?_
      refine wp_s (i := .dup) (n := 1) (pc' := 42) (st' := [.ref 114, .ref 114]) rfl rfl ?_
      refine wq_gi (idx := 77) (pc' := 45) rfl rfl ho_M rfl rfl ?_
      refine wp_s (i := .iconst 1) (n := 1) (pc' := 46) (st' := [dz_I 1, dz_I (Z5 114 22 0), .ref 114]) rfl rfl ?_
      refine wq_2 (i := .iadd) (z := (Z5 114 22 0) + 1) (pc' := 47) rfl rfl (op_add _ _) rfl ?_
      refine wq_pi (idx := 77) (x := (Z5 114 22 0) + 1) (pc' := 50) rfl rfl rfl ho_M rfl rfl rfl rfl (fun Z6 eZ6 => ?_)
      replace H := dz_le H Z6 eZ6
      clear eZ6
      refine wq_inc (k := 3) (d := (-8)) (x := s2.1) (ls' := [some (.ref 114), some (dz_J a1), none, some (dz_I (s2.1 + (-8)))]) (pc' := 53) rfl rfl rfl rfl ?_
      refine wp_s (i := .goto (-34)) (n := 3) (pc' := 19) (st' := []) rfl rfl ?_
      replace H := dz_back H
      exact H
  · replace H := dz_if c1 H
    refine wp_s (i := .bipush (-3)) (n := 2) (pc' := 15) (st' := [dz_I (-3)]) rfl rfl ?_
    refine wq_ri rfl rfl ?_
    replace H := dz_sm H
    exact H
-- 122
def jf_M_end (a1 : Int) (Z : dz_Z) : Option (Int × dz_Z) := if 0 ≤ dz_c a1 ∧ dz_c a1 ≤ dz_c (Z 114 22 0) then (dz_a (dz_u Z 114 22 0 a1) fun Z2 => some (Z 114 22 0, Z2)) else (some ((-1), Z))
set_option maxRecDepth 20000 in
theorem jw_M_end {X : Option (List Int32)} {D : Nat} {Q : Option Value → mm_H → Prop} (a1 : Int) (Z : dz_Z) (H : dz_p (jf_M_end a1 Z) (fun q => Q (some (dz_I q.1)) (hz_0 q.2))) : mm_Wp X (D + 1) mm_r122 0 [some (.ref 114), some (dz_I a1), none] [] (hz_0 Z) Q := by
  unfold jf_M_end at H
  refine wp_s (i := .iload_n 1) (n := 1) (pc' := 1) (st' := [dz_I a1]) rfl rfl ?_
  refine wq_3 (i := .i2l) (v' := dz_J (dz_c a1)) (pc' := 2) rfl rfl (oq_i2l' rfl) rfl ?_
  refine wp_s (i := .lconst 0) (n := 1) (pc' := 3) (st' := [dz_J 0, dz_J (dz_c a1)]) rfl rfl ?_
  refine wp_s (i := .aload_n 0) (n := 1) (pc' := 4) (st' := [.ref 114, dz_J 0, dz_J (dz_c a1)]) rfl rfl ?_
  refine wq_gi (idx := 77) (pc' := 7) rfl rfl ho_M rfl rfl ?_
  refine wq_3 (i := .i2l) (v' := dz_J (dz_c (Z 114 22 0))) (pc' := 8) rfl rfl (oq_i2l' rfl) rfl ?_
  refine wq_cs (Dq := D) (r' := mm_r120) (as0 := [dz_J (dz_c a1), dz_J 0, dz_J (dz_c (Z 114 22 0))]) (rest := []) (ls' := [some (dz_J (dz_c a1)), none, some (dz_J 0), none, some (dz_J (dz_c (Z 114 22 0))), none]) (pc' := 11) rfl rfl (by decide) rfl rfl rfl rfl rfl ?_
  refine jw_in (a' := dz_c a1) (b' := 0) (c' := dz_c (Z 114 22 0)) (dz_lc _) (by decide) (dz_lc _) ?_
  show mm_Wp X (D + 1) mm_r122 11 [some (.ref 114), some (dz_I a1), none] [dz_B (decide (0 ≤ dz_c a1 ∧ dz_c a1 ≤ dz_c (Z 114 22 0)))] (hz_0 Z) Q
  refine wq_if (p := 0 ≤ dz_c a1 ∧ dz_c a1 ≤ dz_c (Z 114 22 0)) (tt := 16) (pc' := 14) rfl rfl (cd_ne) rfl (fun c1 => ?_) (fun c1 => ?_)
  · replace H := dz_it c1 H
    refine wp_s (i := .aload_n 0) (n := 1) (pc' := 17) (st' := [.ref 114]) rfl rfl ?_
    refine wq_gi (idx := 77) (pc' := 20) rfl rfl ho_M rfl rfl ?_
    refine wq_st (k := 2) (i := .istore_n 2) (n := 1) (ls' := [some (.ref 114), some (dz_I a1), some (dz_I (Z 114 22 0))]) (pc' := 21) rfl rfl rfl rfl rfl ?_
    refine wp_s (i := .aload_n 0) (n := 1) (pc' := 22) (st' := [.ref 114]) rfl rfl ?_
    refine wp_s (i := .iload_n 1) (n := 1) (pc' := 23) (st' := [dz_I a1, .ref 114]) rfl rfl ?_
    refine wq_pi (idx := 77) (x := a1) (pc' := 26) rfl rfl rfl ho_M rfl rfl rfl rfl (fun Z2 eZ2 => ?_)
    replace H := dz_le H Z2 eZ2
    clear eZ2
    refine wp_s (i := .iload_n 2) (n := 1) (pc' := 27) (st' := [dz_I (Z 114 22 0)]) rfl rfl ?_
    refine wq_ri rfl rfl ?_
    replace H := dz_sm H
    exact H
  · replace H := dz_if c1 H
    refine wp_s (i := .iconst (-1)) (n := 1) (pc' := 15) (st' := [dz_I (-1)]) rfl rfl ?_
    refine wq_ri rfl rfl ?_
    replace H := dz_sm H
    exact H
-- 123
def jf_M_byteAt (a1 : Int) (Z : dz_Z) : Option (Int) := if dz_c (Z 114 22 0) ≤ dz_c a1 then (some (-4)) else (if 0 ≤ dz_c a1 ∧ dz_c a1 < 320 then some (Z 114 21 (dz_c a1)) else none)
set_option maxRecDepth 20000 in
theorem jw_M_byteAt {X : Option (List Int32)} {D : Nat} {Q : Option Value → mm_H → Prop} (a1 : Int) (Z : dz_Z) (H : dz_p (jf_M_byteAt a1 Z) (fun q => Q (some (dz_I q)) (hz_0 Z))) : mm_Wp X D mm_r123 0 [some (.ref 114), some (dz_I a1)] [] (hz_0 Z) Q := by
  unfold jf_M_byteAt at H
  refine wp_s (i := .iload_n 1) (n := 1) (pc' := 1) (st' := [dz_I a1]) rfl rfl ?_
  refine wp_s (i := .aload_n 0) (n := 1) (pc' := 2) (st' := [.ref 114, dz_I a1]) rfl rfl ?_
  refine wq_gi (idx := 77) (pc' := 5) rfl rfl ho_M rfl rfl ?_
  refine wq_ic (p := dz_c (Z 114 22 0) ≤ dz_c a1) (tt := 17) (pc' := 8) rfl rfl (cq_ge rfl rfl) rfl (fun c1 => ?_) (fun c1 => ?_)
  · replace H := dz_it c1 H
    refine wp_s (i := .bipush (-4)) (n := 2) (pc' := 19) (st' := [dz_I (-4)]) rfl rfl ?_
    refine wq_ri rfl rfl ?_
    replace H := dz_sm H
    exact H
  · replace H := dz_if c1 H
    refine wp_s (i := .aload_n 0) (n := 1) (pc' := 9) (st' := [.ref 114]) rfl rfl ?_
    refine wq_gr (idx := 43) (a := 126) (pc' := 12) rfl rfl ho_M rfl rfl ?_
    refine wp_s (i := .iload_n 1) (n := 1) (pc' := 13) (st' := [dz_I a1, .ref 126]) rfl rfl ?_
    obtain ⟨k2, H⟩ := dz_ck H
    refine wq_ia (j' := dz_c a1) (pc' := 14) rfl ha_M_21 rfl k2.1 k2.2 rfl ?_
    refine wp_s (i := .goto 5) (n := 3) (pc' := 19) (st' := [dz_I (Z 114 21 (dz_c a1))]) rfl rfl ?_
    refine wq_ri rfl rfl ?_
    replace H := dz_sm H
    exact H
-- 124
def jf_M_fails (a1 : Int) (Z : dz_Z) : Option (dz_Z) := if dz_c (Z 114 24 0) ≠ 0 then (some Z) else (dz_a (dz_u Z 114 24 0 a1) fun Z2 => dz_a (dz_u Z2 114 25 0 (Z2 114 27 0)) fun Z3 => some Z3)
set_option maxRecDepth 20000 in
theorem jw_M_fails {X : Option (List Int32)} {D : Nat} {Q : Option Value → mm_H → Prop} (a1 : Int) (Z : dz_Z) (H : dz_p (jf_M_fails a1 Z) (fun q => Q (none) (hz_0 q))) : mm_Wp X D mm_r124 0 [some (.ref 114), some (dz_I a1)] [] (hz_0 Z) Q := by
  unfold jf_M_fails at H
  refine wp_s (i := .aload_n 0) (n := 1) (pc' := 1) (st' := [.ref 114]) rfl rfl ?_
  refine wq_gi (idx := 85) (pc' := 4) rfl rfl ho_M rfl rfl ?_
  refine wq_if (p := dz_c (Z 114 24 0) ≠ 0) (tt := 20) (pc' := 7) rfl rfl (cz_ne rfl) rfl (fun c1 => ?_) (fun c1 => ?_)
  · replace H := dz_it c1 H
    refine wq_rv rfl rfl ?_
    replace H := dz_sm H
    exact H
  · replace H := dz_if c1 H
    refine wp_s (i := .aload_n 0) (n := 1) (pc' := 8) (st' := [.ref 114]) rfl rfl ?_
    refine wp_s (i := .iload_n 1) (n := 1) (pc' := 9) (st' := [dz_I a1, .ref 114]) rfl rfl ?_
    refine wq_pi (idx := 85) (x := a1) (pc' := 12) rfl rfl rfl ho_M rfl rfl rfl rfl (fun Z2 eZ2 => ?_)
    replace H := dz_le H Z2 eZ2
    clear eZ2
    refine wp_s (i := .aload_n 0) (n := 1) (pc' := 13) (st' := [.ref 114]) rfl rfl ?_
    refine wp_s (i := .aload_n 0) (n := 1) (pc' := 14) (st' := [.ref 114, .ref 114]) rfl rfl ?_
    refine wq_gi (idx := 88) (pc' := 17) rfl rfl ho_M rfl rfl ?_
    refine wq_pi (idx := 91) (x := Z2 114 27 0) (pc' := 20) rfl rfl rfl ho_M rfl rfl rfl rfl (fun Z3 eZ3 => ?_)
    replace H := dz_le H Z3 eZ3
    clear eZ3
    refine wq_rv rfl rfl ?_
    replace H := dz_sm H
    exact H
-- 125
def jf_M_nameHere (Z : dz_Z) : Option (Int) := dz_lp (fun (s1 : Int) => if 15 ≤ dz_c s1 then (some (Sum.inr (-4))) else (if dz_c (Z 114 28 0) ≠ 1 then (some (Sum.inr (-4))) else (if 0 ≤ dz_c (s1 + 1) ∧ dz_c (s1 + 1) < 16 then if 0 ≤ dz_c s1 ∧ dz_c s1 < 16 then Option.bind (α := Int) (if dz_c ((Z 114 26 0) - (Z 114 27 0)) ≠ dz_c ((Z 114 30 (dz_c (s1 + 1))) - (Z 114 30 (dz_c s1))) then (some 0) else (some 1)) (fun (q9 : Int) => dz_lp (fun (s10 : Int × Int) => if dz_c s10.1 = 0 then (if dz_c s10.1 = 0 then (some (Sum.inr (Sum.inl (s1 + 1)))) else (some (Sum.inr (Sum.inr s1)))) else (if dz_c ((Z 114 26 0) - (Z 114 27 0)) ≤ dz_c s10.2 then (if dz_c s10.1 = 0 then (some (Sum.inr (Sum.inl (s1 + 1)))) else (some (Sum.inr (Sum.inr s1)))) else (Option.bind (jf_M_byteAt ((Z 114 27 0) + s10.2) Z) fun q15 => if 0 ≤ dz_c ((Z 114 30 (dz_c s1)) + s10.2) ∧ dz_c ((Z 114 30 (dz_c s1)) + s10.2) < 67 then if dz_c q15 ≠ dz_c (Z 114 31 (dz_c ((Z 114 30 (dz_c s1)) + s10.2))) then (some (Sum.inl (0, s10.2 + 1))) else (some (Sum.inl (1, s10.2 + 1))) else none))) 5000 (q9, 0)) else none else none))) 5000 0
set_option maxRecDepth 20000 in
theorem jw_M_nameHere {X : Option (List Int32)} {D : Nat} {Q : Option Value → mm_H → Prop} (Z : dz_Z) (H : dz_p (jf_M_nameHere Z) (fun q => Q (some (dz_I q)) (hz_0 Z))) : mm_Wp X (D + 1) mm_r125 0 [some (.ref 114), none, none, none] [] (hz_0 Z) Q := by
  unfold jf_M_nameHere at H
  refine wp_s (i := .iconst 0) (n := 1) (pc' := 1) (st' := [dz_I 0]) rfl rfl ?_
  refine wq_st (k := 1) (i := .istore_n 1) (n := 1) (ls' := [some (.ref 114), some (dz_I 0), none, none]) (pc' := 2) rfl rfl rfl rfl rfl ?_
  refine dz_lpi (P := fun (s1 : Int) => ∀ (u2 u3 : Option Int32), mm_Wp X (D + 1) mm_r125 2 [some (.ref 114), some (dz_I s1), Option.map Value.int u2, Option.map Value.int u3] [] (hz_0 Z) Q) (fun s1 H => ?_) 5000 0 H none none
  intro u2 u3
  refine wp_s (i := .iload_n 1) (n := 1) (pc' := 3) (st' := [dz_I s1]) rfl rfl ?_
  refine wp_s (i := .bipush 15) (n := 2) (pc' := 5) (st' := [dz_I 15, dz_I s1]) rfl rfl ?_
  refine wq_ic (p := 15 ≤ dz_c s1) (tt := 118) (pc' := 8) rfl rfl (cq_ge rfl dk_15) rfl (fun c4 => ?_) (fun c4 => ?_)
  · replace H := dz_it c4 H
    refine wp_s (i := .bipush (-4)) (n := 2) (pc' := 120) (st' := [dz_I (-4)]) rfl rfl ?_
    refine wq_ri rfl rfl ?_
    replace H := dz_out H
    replace H := dz_sm H
    exact H
  · replace H := dz_if c4 H
    refine wp_s (i := .aload_n 0) (n := 1) (pc' := 9) (st' := [.ref 114]) rfl rfl ?_
    refine wq_gi (idx := 94) (pc' := 12) rfl rfl ho_M rfl rfl ?_
    refine wp_s (i := .iconst 1) (n := 1) (pc' := 13) (st' := [dz_I 1, dz_I (Z 114 28 0)]) rfl rfl ?_
    refine wq_ic (p := dz_c (Z 114 28 0) ≠ 1) (tt := 118) (pc' := 16) rfl rfl (cq_ne rfl dk_1) rfl (fun c5 => ?_) (fun c5 => ?_)
    · replace H := dz_it c5 H
      refine wp_s (i := .bipush (-4)) (n := 2) (pc' := 120) (st' := [dz_I (-4)]) rfl rfl ?_
      refine wq_ri rfl rfl ?_
      replace H := dz_out H
      replace H := dz_sm H
      exact H
    · replace H := dz_if c5 H
      refine wp_s (i := .aload_n 0) (n := 1) (pc' := 17) (st' := [.ref 114]) rfl rfl ?_
      refine wq_gi (idx := 97) (pc' := 20) rfl rfl ho_M rfl rfl ?_
      refine wp_s (i := .aload_n 0) (n := 1) (pc' := 21) (st' := [.ref 114, dz_I (Z 114 26 0)]) rfl rfl ?_
      refine wq_gi (idx := 88) (pc' := 24) rfl rfl ho_M rfl rfl ?_
      refine wq_2 (i := .isub) (z := (Z 114 26 0) - (Z 114 27 0)) (pc' := 25) rfl rfl (op_sub _ _) rfl ?_
      refine wp_s (i := .aload_n 0) (n := 1) (pc' := 26) (st' := [.ref 114, dz_I ((Z 114 26 0) - (Z 114 27 0))]) rfl rfl ?_
      refine wq_gr (idx := 46) (a := 127) (pc' := 29) rfl rfl ho_M rfl rfl ?_
      refine wp_s (i := .iload_n 1) (n := 1) (pc' := 30) (st' := [dz_I s1, .ref 127, dz_I ((Z 114 26 0) - (Z 114 27 0))]) rfl rfl ?_
      refine wp_s (i := .iconst 1) (n := 1) (pc' := 31) (st' := [dz_I 1, dz_I s1, .ref 127, dz_I ((Z 114 26 0) - (Z 114 27 0))]) rfl rfl ?_
      refine wq_2 (i := .iadd) (z := s1 + 1) (pc' := 32) rfl rfl (op_add _ _) rfl ?_
      obtain ⟨k6, H⟩ := dz_ck H
      refine wq_ia (j' := dz_c (s1 + 1)) (pc' := 33) rfl ha_M_30 rfl k6.1 k6.2 rfl ?_
      refine wp_s (i := .aload_n 0) (n := 1) (pc' := 34) (st' := [.ref 114, dz_I (Z 114 30 (dz_c (s1 + 1))), dz_I ((Z 114 26 0) - (Z 114 27 0))]) rfl rfl ?_
      refine wq_gr (idx := 46) (a := 127) (pc' := 37) rfl rfl ho_M rfl rfl ?_
      refine wp_s (i := .iload_n 1) (n := 1) (pc' := 38) (st' := [dz_I s1, .ref 127, dz_I (Z 114 30 (dz_c (s1 + 1))), dz_I ((Z 114 26 0) - (Z 114 27 0))]) rfl rfl ?_
      obtain ⟨k7, H⟩ := dz_ck H
      refine wq_ia (j' := dz_c s1) (pc' := 39) rfl ha_M_30 rfl k7.1 k7.2 rfl ?_
      refine wq_2 (i := .isub) (z := (Z 114 30 (dz_c (s1 + 1))) - (Z 114 30 (dz_c s1))) (pc' := 40) rfl rfl (op_sub _ _) rfl ?_
      refine dz_jn (P := fun (q9 : Int) => mm_Wp X (D + 1) mm_r125 48 [some (.ref 114), some (dz_I s1), Option.map Value.int u2, Option.map Value.int u3] [dz_I q9] (hz_0 Z) Q) (dz_bi H) (fun q9 H => ?_) (fun H => ?_)
      · skip
        refine wq_st (k := 2) (i := .istore_n 2) (n := 1) (ls' := [some (.ref 114), some (dz_I s1), some (dz_I q9), Option.map Value.int u3]) (pc' := 49) rfl rfl rfl rfl rfl ?_
        refine wp_s (i := .iconst 0) (n := 1) (pc' := 50) (st' := [dz_I 0]) rfl rfl ?_
        refine wq_st (k := 3) (i := .istore_n 3) (n := 1) (ls' := [some (.ref 114), some (dz_I s1), some (dz_I q9), some (dz_I 0)]) (pc' := 51) rfl rfl rfl rfl rfl ?_
        refine dz_lpi (P := fun (s10 : Int × Int) => mm_Wp X (D + 1) mm_r125 51 [some (.ref 114), some (dz_I s1), some (dz_I s10.1), some (dz_I s10.2)] [] (hz_0 Z) Q) (fun s10 H => ?_) 5000 (q9, 0) H
        refine wp_s (i := .iload_n 2) (n := 1) (pc' := 52) (st' := [dz_I s10.1]) rfl rfl ?_
        refine wq_if (p := dz_c s10.1 = 0) (tt := 106) (pc' := 55) rfl rfl (cz_eq rfl) rfl (fun c11 => ?_) (fun c11 => ?_)
        · replace H := dz_it c11 H
          refine wp_s (i := .iload_n 2) (n := 1) (pc' := 107) (st' := [dz_I s10.1]) rfl rfl ?_
          refine wq_if (p := dz_c s10.1 = 0) (tt := 112) (pc' := 110) rfl rfl (cz_eq rfl) rfl (fun c12 => ?_) (fun c12 => ?_)
          · replace H := dz_it c12 H
            refine wq_inc (k := 1) (d := 1) (x := s1) (ls' := [some (.ref 114), some (dz_I (s1 + 1)), some (dz_I s10.1), some (dz_I s10.2)]) (pc' := 115) rfl rfl rfl rfl ?_
            refine wp_s (i := .goto (-113)) (n := 3) (pc' := 2) (st' := []) rfl rfl ?_
            replace H := dz_out H
            replace H := dz_back H
            exact H (some (Int32.ofInt s10.1)) (some (Int32.ofInt s10.2))
          · replace H := dz_if c12 H
            refine wp_s (i := .iload_n 1) (n := 1) (pc' := 111) (st' := [dz_I s1]) rfl rfl ?_
            refine wq_ri rfl rfl ?_
            replace H := dz_out H
            replace H := dz_out H
            replace H := dz_sm H
            exact H
        · replace H := dz_if c11 H
          refine wp_s (i := .iload_n 3) (n := 1) (pc' := 56) (st' := [dz_I s10.2]) rfl rfl ?_
          refine wp_s (i := .aload_n 0) (n := 1) (pc' := 57) (st' := [.ref 114, dz_I s10.2]) rfl rfl ?_
          refine wq_gi (idx := 97) (pc' := 60) rfl rfl ho_M rfl rfl ?_
          refine wp_s (i := .aload_n 0) (n := 1) (pc' := 61) (st' := [.ref 114, dz_I (Z 114 26 0), dz_I s10.2]) rfl rfl ?_
          refine wq_gi (idx := 88) (pc' := 64) rfl rfl ho_M rfl rfl ?_
          refine wq_2 (i := .isub) (z := (Z 114 26 0) - (Z 114 27 0)) (pc' := 65) rfl rfl (op_sub _ _) rfl ?_
          refine wq_ic (p := dz_c ((Z 114 26 0) - (Z 114 27 0)) ≤ dz_c s10.2) (tt := 106) (pc' := 68) rfl rfl (cq_ge rfl rfl) rfl (fun c13 => ?_) (fun c13 => ?_)
          · replace H := dz_it c13 H
            refine wp_s (i := .iload_n 2) (n := 1) (pc' := 107) (st' := [dz_I s10.1]) rfl rfl ?_
            refine wq_if (p := dz_c s10.1 = 0) (tt := 112) (pc' := 110) rfl rfl (cz_eq rfl) rfl (fun c14 => ?_) (fun c14 => ?_)
            · replace H := dz_it c14 H
              refine wq_inc (k := 1) (d := 1) (x := s1) (ls' := [some (.ref 114), some (dz_I (s1 + 1)), some (dz_I s10.1), some (dz_I s10.2)]) (pc' := 115) rfl rfl rfl rfl ?_
              refine wp_s (i := .goto (-113)) (n := 3) (pc' := 2) (st' := []) rfl rfl ?_
              replace H := dz_out H
              replace H := dz_back H
              exact H (some (Int32.ofInt s10.1)) (some (Int32.ofInt s10.2))
            · replace H := dz_if c14 H
              refine wp_s (i := .iload_n 1) (n := 1) (pc' := 111) (st' := [dz_I s1]) rfl rfl ?_
              refine wq_ri rfl rfl ?_
              replace H := dz_out H
              replace H := dz_out H
              replace H := dz_sm H
              exact H
          · replace H := dz_if c13 H
            refine wp_s (i := .aload_n 0) (n := 1) (pc' := 69) (st' := [.ref 114]) rfl rfl ?_
            refine wp_s (i := .aload_n 0) (n := 1) (pc' := 70) (st' := [.ref 114, .ref 114]) rfl rfl ?_
            refine wq_gi (idx := 88) (pc' := 73) rfl rfl ho_M rfl rfl ?_
            refine wp_s (i := .iload_n 3) (n := 1) (pc' := 74) (st' := [dz_I s10.2, dz_I (Z 114 27 0), .ref 114]) rfl rfl ?_
            refine wq_2 (i := .iadd) (z := (Z 114 27 0) + s10.2) (pc' := 75) rfl rfl (op_add _ _) rfl ?_
            refine wq_cv (Dq := D) (r' := mm_r123) (as0 := [dz_I ((Z 114 27 0) + s10.2)]) (rest := []) (ls' := [some (.ref 114), some (dz_I ((Z 114 27 0) + s10.2))]) (pc' := 78) rfl rfl rfl rfl ho_M rfl rfl rfl ?_
            refine jw_M_byteAt (X := X) (D := D + 0) ((Z 114 27 0) + s10.2) Z (dz_pm (dz_bi H) (fun q15 H => ?_))
            show mm_Wp X (D + 1) mm_r125 78 [some (.ref 114), some (dz_I s1), some (dz_I s10.1), some (dz_I s10.2)] [dz_I q15] (hz_0 Z) Q
            refine wp_s (i := .aload_n 0) (n := 1) (pc' := 79) (st' := [.ref 114, dz_I q15]) rfl rfl ?_
            refine wq_gr (idx := 49) (a := 128) (pc' := 82) rfl rfl ho_M rfl rfl ?_
            refine wp_s (i := .aload_n 0) (n := 1) (pc' := 83) (st' := [.ref 114, .ref 128, dz_I q15]) rfl rfl ?_
            refine wq_gr (idx := 46) (a := 127) (pc' := 86) rfl rfl ho_M rfl rfl ?_
            refine wp_s (i := .iload_n 1) (n := 1) (pc' := 87) (st' := [dz_I s1, .ref 127, .ref 128, dz_I q15]) rfl rfl ?_
            refine wq_ia (j' := dz_c s1) (pc' := 88) rfl ha_M_30 rfl k7.1 k7.2 rfl ?_
            refine wp_s (i := .iload_n 3) (n := 1) (pc' := 89) (st' := [dz_I s10.2, dz_I (Z 114 30 (dz_c s1)), .ref 128, dz_I q15]) rfl rfl ?_
            refine wq_2 (i := .iadd) (z := (Z 114 30 (dz_c s1)) + s10.2) (pc' := 90) rfl rfl (op_add _ _) rfl ?_
            obtain ⟨k16, H⟩ := dz_ck H
            refine wq_ia (j' := dz_c ((Z 114 30 (dz_c s1)) + s10.2)) (pc' := 91) rfl ha_M_31 rfl k16.1 k16.2 rfl ?_
            refine wq_ic (p := dz_c q15 ≠ dz_c (Z 114 31 (dz_c ((Z 114 30 (dz_c s1)) + s10.2)))) (tt := 98) (pc' := 94) rfl rfl (cq_ne rfl rfl) rfl (fun c17 => ?_) (fun c17 => ?_)
            · replace H := dz_it c17 H
              refine wp_s (i := .iconst 0) (n := 1) (pc' := 99) (st' := [dz_I 0]) rfl rfl ?_
              refine wq_st (k := 2) (i := .istore_n 2) (n := 1) (ls' := [some (.ref 114), some (dz_I s1), some (dz_I 0), some (dz_I s10.2)]) (pc' := 100) rfl rfl rfl rfl rfl ?_
              refine wq_inc (k := 3) (d := 1) (x := s10.2) (ls' := [some (.ref 114), some (dz_I s1), some (dz_I 0), some (dz_I (s10.2 + 1))]) (pc' := 103) rfl rfl rfl rfl ?_
              refine wp_s (i := .goto (-52)) (n := 3) (pc' := 51) (st' := []) rfl rfl ?_
              replace H := dz_back H
              exact H
            · replace H := dz_if c17 H
              refine wp_s (i := .iconst 1) (n := 1) (pc' := 95) (st' := [dz_I 1]) rfl rfl ?_
              refine wp_s (i := .goto 4) (n := 3) (pc' := 99) (st' := [dz_I 1]) rfl rfl ?_
              refine wq_st (k := 2) (i := .istore_n 2) (n := 1) (ls' := [some (.ref 114), some (dz_I s1), some (dz_I 1), some (dz_I s10.2)]) (pc' := 100) rfl rfl rfl rfl rfl ?_
              refine wq_inc (k := 3) (d := 1) (x := s10.2) (ls' := [some (.ref 114), some (dz_I s1), some (dz_I 1), some (dz_I (s10.2 + 1))]) (pc' := 103) rfl rfl rfl rfl ?_
              refine wp_s (i := .goto (-52)) (n := 3) (pc' := 51) (st' := []) rfl rfl ?_
              replace H := dz_back H
              exact H
      · skip
        refine wq_ic (p := dz_c ((Z 114 26 0) - (Z 114 27 0)) ≠ dz_c ((Z 114 30 (dz_c (s1 + 1))) - (Z 114 30 (dz_c s1)))) (tt := 47) (pc' := 43) rfl rfl (cq_ne rfl rfl) rfl (fun c18 => ?_) (fun c18 => ?_)
        · replace H := dz_it c18 H
          refine wp_s (i := .iconst 0) (n := 1) (pc' := 48) (st' := [dz_I 0]) rfl rfl ?_
          replace H := dz_sm H
          exact H
        · replace H := dz_if c18 H
          refine wp_s (i := .iconst 1) (n := 1) (pc' := 44) (st' := [dz_I 1]) rfl rfl ?_
          refine wp_s (i := .goto 4) (n := 3) (pc' := 48) (st' := [dz_I 1]) rfl rfl ?_
          replace H := dz_sm H
          exact H
-- 126
def jf_M_step (Z : dz_Z) : Option (dz_Z) := if dz_c (Z 114 24 0) ≤ 0 then (dz_lp (fun (s2 : dz_Z) => Option.bind (jf_M_byteAt (s2 114 26 0) s2) fun q3 => if dz_c q3 ≠ 32 then (dz_a (dz_u s2 114 27 0 (s2 114 26 0)) fun Z5 => Option.bind (jf_M_byteAt (Z5 114 26 0) Z5) fun q6 => dz_a (dz_u Z5 114 29 0 0) fun Z7 => if dz_c q6 ≠ (-4) then (if ¬(97 ≤ dz_c q6 ∧ dz_c q6 ≤ 122) then (if ¬(48 ≤ dz_c q6 ∧ dz_c q6 ≤ 57) then (dz_a (dz_u Z7 114 28 0 3) fun Z11 => dz_a (dz_u Z11 114 26 0 ((Z11 114 26 0) + 1)) fun Z12 => if dz_c q6 = 59 then (some (Sum.inr Z12)) else (Option.bind (jf_M_fails 1 Z12) fun q14 => some (Sum.inr q14))) else (dz_lp (fun (s15 : dz_Z) => Option.bind (jf_M_byteAt (s15 114 26 0) s15) fun q16 => if ¬(48 ≤ dz_c q16 ∧ dz_c q16 ≤ 57) then (dz_a (dz_u s15 114 28 0 2) fun Z18 => if dz_c ((Z18 114 26 0) - (Z18 114 27 0)) ≤ 3 then (some (Sum.inr (Sum.inr Z18))) else (Option.bind (jf_M_fails 1 Z18) fun q20 => some (Sum.inr (Sum.inr q20)))) else (Option.bind (α := Int) (if 3 ≤ dz_c ((s15 114 26 0) - (s15 114 27 0)) then (some (s15 114 29 0)) else (Option.bind (jf_M_byteAt (s15 114 26 0) s15) fun q27 => some (((10 * (s15 114 29 0)) + q27) - 48))) (fun (q23 : Int) => dz_a (dz_u s15 114 29 0 q23) fun Z24 => dz_a (dz_u Z24 114 26 0 ((Z24 114 26 0) + 1)) fun Z25 => some (Sum.inl Z25)))) 5000 Z7)) else (dz_lp (fun (s28 : dz_Z) => Option.bind (jf_M_byteAt (s28 114 26 0) s28) fun q29 => if ¬(97 ≤ dz_c q29 ∧ dz_c q29 ≤ 122) then (dz_a (dz_u s28 114 28 0 1) fun Z31 => some (Sum.inr (Sum.inr Z31))) else (dz_a (dz_u s28 114 26 0 ((s28 114 26 0) + 1)) fun Z32 => some (Sum.inl Z32))) 5000 Z7)) else (dz_a (dz_u Z7 114 28 0 0) fun Z33 => some (Sum.inr Z33))) else (dz_a (dz_u s2 114 26 0 ((s2 114 26 0) + 1)) fun Z34 => some (Sum.inl Z34))) 5000 Z) else (some Z)
set_option maxRecDepth 20000 in
theorem jw_M_step {X : Option (List Int32)} {D : Nat} {Q : Option Value → mm_H → Prop} (Z : dz_Z) (H : dz_p (jf_M_step Z) (fun q => Q (none) (hz_0 q))) : mm_Wp X (D + 1) mm_r126 0 [some (.ref 114), none] [] (hz_0 Z) Q := by
  unfold jf_M_step at H
  refine wp_s (i := .aload_n 0) (n := 1) (pc' := 1) (st' := [.ref 114]) rfl rfl ?_
  refine wq_gi (idx := 85) (pc' := 4) rfl rfl ho_M rfl rfl ?_
  refine wq_if (p := dz_c (Z 114 24 0) ≤ 0) (tt := 8) (pc' := 7) rfl rfl (cz_le rfl) rfl (fun c1 => ?_) (fun c1 => ?_)
  · replace H := dz_it c1 H
    refine dz_lpi (P := fun (s2 : dz_Z) => mm_Wp X (D + 1) mm_r126 8 [some (.ref 114), none] [] (hz_0 s2) Q) (fun s2 H => ?_) 5000 Z H
    refine wp_s (i := .aload_n 0) (n := 1) (pc' := 9) (st' := [.ref 114]) rfl rfl ?_
    refine wp_s (i := .aload_n 0) (n := 1) (pc' := 10) (st' := [.ref 114, .ref 114]) rfl rfl ?_
    refine wq_gi (idx := 97) (pc' := 13) rfl rfl ho_M rfl rfl ?_
    refine wq_cv (Dq := D) (r' := mm_r123) (as0 := [dz_I (s2 114 26 0)]) (rest := []) (ls' := [some (.ref 114), some (dz_I (s2 114 26 0))]) (pc' := 16) rfl rfl rfl rfl ho_M rfl rfl rfl ?_
    refine jw_M_byteAt (X := X) (D := D + 0) (s2 114 26 0) s2 (dz_pm (dz_bi H) (fun q3 H => ?_))
    show mm_Wp X (D + 1) mm_r126 16 [some (.ref 114), none] [dz_I q3] (hz_0 s2) Q
    refine wp_s (i := .bipush 32) (n := 2) (pc' := 18) (st' := [dz_I 32, dz_I q3]) rfl rfl ?_
    refine wq_ic (p := dz_c q3 ≠ 32) (tt := 34) (pc' := 21) rfl rfl (cq_ne rfl dk_32) rfl (fun c4 => ?_) (fun c4 => ?_)
    · replace H := dz_it c4 H
      refine wp_s (i := .aload_n 0) (n := 1) (pc' := 35) (st' := [.ref 114]) rfl rfl ?_
      refine wp_s (i := .aload_n 0) (n := 1) (pc' := 36) (st' := [.ref 114, .ref 114]) rfl rfl ?_
      refine wq_gi (idx := 97) (pc' := 39) rfl rfl ho_M rfl rfl ?_
      refine wq_pi (idx := 88) (x := s2 114 26 0) (pc' := 42) rfl rfl rfl ho_M rfl rfl rfl rfl (fun Z5 eZ5 => ?_)
      replace H := dz_le H Z5 eZ5
      clear eZ5
      refine wp_s (i := .aload_n 0) (n := 1) (pc' := 43) (st' := [.ref 114]) rfl rfl ?_
      refine wp_s (i := .aload_n 0) (n := 1) (pc' := 44) (st' := [.ref 114, .ref 114]) rfl rfl ?_
      refine wq_gi (idx := 97) (pc' := 47) rfl rfl ho_M rfl rfl ?_
      refine wq_cv (Dq := D) (r' := mm_r123) (as0 := [dz_I (Z5 114 26 0)]) (rest := []) (ls' := [some (.ref 114), some (dz_I (Z5 114 26 0))]) (pc' := 50) rfl rfl rfl rfl ho_M rfl rfl rfl ?_
      refine jw_M_byteAt (X := X) (D := D + 0) (Z5 114 26 0) Z5 (dz_pm (dz_bi H) (fun q6 H => ?_))
      show mm_Wp X (D + 1) mm_r126 50 [some (.ref 114), none] [dz_I q6] (hz_0 Z5) Q
      refine wq_st (k := 1) (i := .istore_n 1) (n := 1) (ls' := [some (.ref 114), some (dz_I q6)]) (pc' := 51) rfl rfl rfl rfl rfl ?_
      refine wp_s (i := .aload_n 0) (n := 1) (pc' := 52) (st' := [.ref 114]) rfl rfl ?_
      refine wp_s (i := .iconst 0) (n := 1) (pc' := 53) (st' := [dz_I 0, .ref 114]) rfl rfl ?_
      refine wq_pi (idx := 104) (x := 0) (pc' := 56) rfl rfl rfl ho_M rfl rfl rfl rfl (fun Z7 eZ7 => ?_)
      replace H := dz_le H Z7 eZ7
      clear eZ7
      refine wp_s (i := .iload_n 1) (n := 1) (pc' := 57) (st' := [dz_I q6]) rfl rfl ?_
      refine wp_s (i := .bipush (-4)) (n := 2) (pc' := 59) (st' := [dz_I (-4), dz_I q6]) rfl rfl ?_
      refine wq_ic (p := dz_c q6 ≠ (-4)) (tt := 70) (pc' := 62) rfl rfl (cq_ne rfl dk_m4) rfl (fun c8 => ?_) (fun c8 => ?_)
      · replace H := dz_it c8 H
        refine wp_s (i := .iload_n 1) (n := 1) (pc' := 71) (st' := [dz_I q6]) rfl rfl ?_
        refine wq_3 (i := .i2l) (v' := dz_J (dz_c q6)) (pc' := 72) rfl rfl (oq_i2l' rfl) rfl ?_
        refine wp_s (i := .ldc2_w 107) (n := 3) (pc' := 75) (st' := [dz_J 97, dz_J (dz_c q6)]) rfl rfl ?_
        refine wp_s (i := .ldc2_w 109) (n := 3) (pc' := 78) (st' := [dz_J 122, dz_J 97, dz_J (dz_c q6)]) rfl rfl ?_
        refine wq_cs (Dq := D) (r' := mm_r120) (as0 := [dz_J (dz_c q6), dz_J 97, dz_J 122]) (rest := []) (ls' := [some (dz_J (dz_c q6)), none, some (dz_J 97), none, some (dz_J 122), none]) (pc' := 81) rfl rfl (by decide) rfl rfl rfl rfl rfl ?_
        refine jw_in (a' := dz_c q6) (b' := 97) (c' := 122) (dz_lc _) (by decide) (by decide) ?_
        show mm_Wp X (D + 1) mm_r126 81 [some (.ref 114), some (dz_I q6)] [dz_B (decide (97 ≤ dz_c q6 ∧ dz_c q6 ≤ 122))] (hz_0 Z7) Q
        refine wq_if (p := ¬(97 ≤ dz_c q6 ∧ dz_c q6 ≤ 122)) (tt := 126) (pc' := 84) rfl rfl (cd_eq) rfl (fun c9 => ?_) (fun c9 => ?_)
        · replace H := dz_it c9 H
          refine wp_s (i := .iload_n 1) (n := 1) (pc' := 127) (st' := [dz_I q6]) rfl rfl ?_
          refine wq_3 (i := .i2l) (v' := dz_J (dz_c q6)) (pc' := 128) rfl rfl (oq_i2l' rfl) rfl ?_
          refine wp_s (i := .ldc2_w 111) (n := 3) (pc' := 131) (st' := [dz_J 48, dz_J (dz_c q6)]) rfl rfl ?_
          refine wp_s (i := .ldc2_w 113) (n := 3) (pc' := 134) (st' := [dz_J 57, dz_J 48, dz_J (dz_c q6)]) rfl rfl ?_
          refine wq_cs (Dq := D) (r' := mm_r120) (as0 := [dz_J (dz_c q6), dz_J 48, dz_J 57]) (rest := []) (ls' := [some (dz_J (dz_c q6)), none, some (dz_J 48), none, some (dz_J 57), none]) (pc' := 137) rfl rfl (by decide) rfl rfl rfl rfl rfl ?_
          refine jw_in (a' := dz_c q6) (b' := 48) (c' := 57) (dz_lc _) (by decide) (by decide) ?_
          show mm_Wp X (D + 1) mm_r126 137 [some (.ref 114), some (dz_I q6)] [dz_B (decide (48 ≤ dz_c q6 ∧ dz_c q6 ≤ 57))] (hz_0 Z7) Q
          refine wq_if (p := ¬(48 ≤ dz_c q6 ∧ dz_c q6 ≤ 57)) (tt := 243) (pc' := 140) rfl rfl (cd_eq) rfl (fun c10 => ?_) (fun c10 => ?_)
          · replace H := dz_it c10 H
            refine wp_s (i := .aload_n 0) (n := 1) (pc' := 244) (st' := [.ref 114]) rfl rfl ?_
            refine wp_s (i := .iconst 3) (n := 1) (pc' := 245) (st' := [dz_I 3, .ref 114]) rfl rfl ?_
            refine wq_pi (idx := 94) (x := 3) (pc' := 248) rfl rfl rfl ho_M rfl rfl rfl rfl (fun Z11 eZ11 => ?_)
            replace H := dz_le H Z11 eZ11
            clear eZ11
            refine wp_s (i := .aload_n 0) (n := 1) (pc' := 249) (st' := [.ref 114]) rfl rfl ?_
            refine wp_s (i := .dup) (n := 1) (pc' := 250) (st' := [.ref 114, .ref 114]) rfl rfl ?_
            refine wq_gi (idx := 97) (pc' := 253) rfl rfl ho_M rfl rfl ?_
            refine wp_s (i := .iconst 1) (n := 1) (pc' := 254) (st' := [dz_I 1, dz_I (Z11 114 26 0), .ref 114]) rfl rfl ?_
            refine wq_2 (i := .iadd) (z := (Z11 114 26 0) + 1) (pc' := 255) rfl rfl (op_add _ _) rfl ?_
            refine wq_pi (idx := 97) (x := (Z11 114 26 0) + 1) (pc' := 258) rfl rfl rfl ho_M rfl rfl rfl rfl (fun Z12 eZ12 => ?_)
            replace H := dz_le H Z12 eZ12
            clear eZ12
            refine wp_s (i := .iload_n 1) (n := 1) (pc' := 259) (st' := [dz_I q6]) rfl rfl ?_
            refine wp_s (i := .bipush 59) (n := 2) (pc' := 261) (st' := [dz_I 59, dz_I q6]) rfl rfl ?_
            refine wq_ic (p := dz_c q6 = 59) (tt := 269) (pc' := 264) rfl rfl (cq_eq rfl dk_59) rfl (fun c13 => ?_) (fun c13 => ?_)
            · replace H := dz_it c13 H
              refine wq_rv rfl rfl ?_
              replace H := dz_out H
              replace H := dz_sm H
              exact H
            · replace H := dz_if c13 H
              refine wp_s (i := .aload_n 0) (n := 1) (pc' := 265) (st' := [.ref 114]) rfl rfl ?_
              refine wp_s (i := .iconst 1) (n := 1) (pc' := 266) (st' := [dz_I 1, .ref 114]) rfl rfl ?_
              refine wq_cv (Dq := D) (r' := mm_r124) (as0 := [dz_I 1]) (rest := []) (ls' := [some (.ref 114), some (dz_I 1)]) (pc' := 269) rfl rfl rfl rfl ho_M rfl rfl rfl ?_
              refine jw_M_fails (X := X) (D := D + 0) 1 Z12 (dz_pm (dz_bi H) (fun q14 H => ?_))
              show mm_Wp X (D + 1) mm_r126 269 [some (.ref 114), some (dz_I q6)] [] (hz_0 q14) Q
              refine wq_rv rfl rfl ?_
              replace H := dz_out H
              replace H := dz_sm H
              exact H
          · replace H := dz_if c10 H
            refine dz_lpi (P := fun (s15 : dz_Z) => mm_Wp X (D + 1) mm_r126 140 [some (.ref 114), some (dz_I q6)] [] (hz_0 s15) Q) (fun s15 H => ?_) 5000 Z7 H
            refine wp_s (i := .aload_n 0) (n := 1) (pc' := 141) (st' := [.ref 114]) rfl rfl ?_
            refine wp_s (i := .aload_n 0) (n := 1) (pc' := 142) (st' := [.ref 114, .ref 114]) rfl rfl ?_
            refine wq_gi (idx := 97) (pc' := 145) rfl rfl ho_M rfl rfl ?_
            refine wq_cv (Dq := D) (r' := mm_r123) (as0 := [dz_I (s15 114 26 0)]) (rest := []) (ls' := [some (.ref 114), some (dz_I (s15 114 26 0))]) (pc' := 148) rfl rfl rfl rfl ho_M rfl rfl rfl ?_
            refine jw_M_byteAt (X := X) (D := D + 0) (s15 114 26 0) s15 (dz_pm (dz_bi H) (fun q16 H => ?_))
            show mm_Wp X (D + 1) mm_r126 148 [some (.ref 114), some (dz_I q6)] [dz_I q16] (hz_0 s15) Q
            refine wq_3 (i := .i2l) (v' := dz_J (dz_c q16)) (pc' := 149) rfl rfl (oq_i2l' rfl) rfl ?_
            refine wp_s (i := .ldc2_w 111) (n := 3) (pc' := 152) (st' := [dz_J 48, dz_J (dz_c q16)]) rfl rfl ?_
            refine wp_s (i := .ldc2_w 113) (n := 3) (pc' := 155) (st' := [dz_J 57, dz_J 48, dz_J (dz_c q16)]) rfl rfl ?_
            refine wq_cs (Dq := D) (r' := mm_r120) (as0 := [dz_J (dz_c q16), dz_J 48, dz_J 57]) (rest := []) (ls' := [some (dz_J (dz_c q16)), none, some (dz_J 48), none, some (dz_J 57), none]) (pc' := 158) rfl rfl (by decide) rfl rfl rfl rfl rfl ?_
            refine jw_in (a' := dz_c q16) (b' := 48) (c' := 57) (dz_lc _) (by decide) (by decide) ?_
            show mm_Wp X (D + 1) mm_r126 158 [some (.ref 114), some (dz_I q6)] [dz_B (decide (48 ≤ dz_c q16 ∧ dz_c q16 ≤ 57))] (hz_0 s15) Q
            refine wq_if (p := ¬(48 ≤ dz_c q16 ∧ dz_c q16 ≤ 57)) (tt := 217) (pc' := 161) rfl rfl (cd_eq) rfl (fun c17 => ?_) (fun c17 => ?_)
            · replace H := dz_it c17 H
              refine wp_s (i := .aload_n 0) (n := 1) (pc' := 218) (st' := [.ref 114]) rfl rfl ?_
              refine wp_s (i := .iconst 2) (n := 1) (pc' := 219) (st' := [dz_I 2, .ref 114]) rfl rfl ?_
              refine wq_pi (idx := 94) (x := 2) (pc' := 222) rfl rfl rfl ho_M rfl rfl rfl rfl (fun Z18 eZ18 => ?_)
              replace H := dz_le H Z18 eZ18
              clear eZ18
              refine wp_s (i := .aload_n 0) (n := 1) (pc' := 223) (st' := [.ref 114]) rfl rfl ?_
              refine wq_gi (idx := 97) (pc' := 226) rfl rfl ho_M rfl rfl ?_
              refine wp_s (i := .aload_n 0) (n := 1) (pc' := 227) (st' := [.ref 114, dz_I (Z18 114 26 0)]) rfl rfl ?_
              refine wq_gi (idx := 88) (pc' := 230) rfl rfl ho_M rfl rfl ?_
              refine wq_2 (i := .isub) (z := (Z18 114 26 0) - (Z18 114 27 0)) (pc' := 231) rfl rfl (op_sub _ _) rfl ?_
              refine wp_s (i := .iconst 3) (n := 1) (pc' := 232) (st' := [dz_I 3, dz_I ((Z18 114 26 0) - (Z18 114 27 0))]) rfl rfl ?_
              refine wq_ic (p := dz_c ((Z18 114 26 0) - (Z18 114 27 0)) ≤ 3) (tt := 269) (pc' := 235) rfl rfl (cq_le rfl dk_3) rfl (fun c19 => ?_) (fun c19 => ?_)
              · replace H := dz_it c19 H
                refine wq_rv rfl rfl ?_
                replace H := dz_out H
                replace H := dz_out H
                replace H := dz_sm H
                exact H
              · replace H := dz_if c19 H
                refine wp_s (i := .aload_n 0) (n := 1) (pc' := 236) (st' := [.ref 114]) rfl rfl ?_
                refine wp_s (i := .iconst 1) (n := 1) (pc' := 237) (st' := [dz_I 1, .ref 114]) rfl rfl ?_
                refine wq_cv (Dq := D) (r' := mm_r124) (as0 := [dz_I 1]) (rest := []) (ls' := [some (.ref 114), some (dz_I 1)]) (pc' := 240) rfl rfl rfl rfl ho_M rfl rfl rfl ?_
                refine jw_M_fails (X := X) (D := D + 0) 1 Z18 (dz_pm (dz_bi H) (fun q20 H => ?_))
                show mm_Wp X (D + 1) mm_r126 240 [some (.ref 114), some (dz_I q6)] [] (hz_0 q20) Q
                refine wp_s (i := .goto 29) (n := 3) (pc' := 269) (st' := []) rfl rfl ?_
                refine wq_rv rfl rfl ?_
                replace H := dz_out H
                replace H := dz_out H
                replace H := dz_sm H
                exact H
            · replace H := dz_if c17 H
              refine wp_s (i := .aload_n 0) (n := 1) (pc' := 162) (st' := [.ref 114]) rfl rfl ?_
              refine wp_s (i := .aload_n 0) (n := 1) (pc' := 163) (st' := [.ref 114, .ref 114]) rfl rfl ?_
              refine wq_gi (idx := 97) (pc' := 166) rfl rfl ho_M rfl rfl ?_
              refine wp_s (i := .aload_n 0) (n := 1) (pc' := 167) (st' := [.ref 114, dz_I (s15 114 26 0), .ref 114]) rfl rfl ?_
              refine wq_gi (idx := 88) (pc' := 170) rfl rfl ho_M rfl rfl ?_
              refine wq_2 (i := .isub) (z := (s15 114 26 0) - (s15 114 27 0)) (pc' := 171) rfl rfl (op_sub _ _) rfl ?_
              refine wp_s (i := .iconst 3) (n := 1) (pc' := 172) (st' := [dz_I 3, dz_I ((s15 114 26 0) - (s15 114 27 0)), .ref 114]) rfl rfl ?_
              refine dz_jn (P := fun (q23 : Int) => mm_Wp X (D + 1) mm_r126 201 [some (.ref 114), some (dz_I q6)] [dz_I q23, .ref 114] (hz_0 s15) Q) (dz_bi H) (fun q23 H => ?_) (fun H => ?_)
              · skip
                refine wq_pi (idx := 104) (x := q23) (pc' := 204) rfl rfl rfl ho_M rfl rfl rfl rfl (fun Z24 eZ24 => ?_)
                replace H := dz_le H Z24 eZ24
                clear eZ24
                refine wp_s (i := .aload_n 0) (n := 1) (pc' := 205) (st' := [.ref 114]) rfl rfl ?_
                refine wp_s (i := .dup) (n := 1) (pc' := 206) (st' := [.ref 114, .ref 114]) rfl rfl ?_
                refine wq_gi (idx := 97) (pc' := 209) rfl rfl ho_M rfl rfl ?_
                refine wp_s (i := .iconst 1) (n := 1) (pc' := 210) (st' := [dz_I 1, dz_I (Z24 114 26 0), .ref 114]) rfl rfl ?_
                refine wq_2 (i := .iadd) (z := (Z24 114 26 0) + 1) (pc' := 211) rfl rfl (op_add _ _) rfl ?_
                refine wq_pi (idx := 97) (x := (Z24 114 26 0) + 1) (pc' := 214) rfl rfl rfl ho_M rfl rfl rfl rfl (fun Z25 eZ25 => ?_)
                replace H := dz_le H Z25 eZ25
                clear eZ25
                refine wp_s (i := .goto (-74)) (n := 3) (pc' := 140) (st' := []) rfl rfl ?_
                replace H := dz_back H
                exact H
              · skip
                refine wq_ic (p := 3 ≤ dz_c ((s15 114 26 0) - (s15 114 27 0))) (tt := 197) (pc' := 175) rfl rfl (cq_ge rfl dk_3) rfl (fun c26 => ?_) (fun c26 => ?_)
                · replace H := dz_it c26 H
                  refine wp_s (i := .aload_n 0) (n := 1) (pc' := 198) (st' := [.ref 114, .ref 114]) rfl rfl ?_
                  refine wq_gi (idx := 104) (pc' := 201) rfl rfl ho_M rfl rfl ?_
                  replace H := dz_sm H
                  exact H
                · replace H := dz_if c26 H
                  refine wp_s (i := .bipush 10) (n := 2) (pc' := 177) (st' := [dz_I 10, .ref 114]) rfl rfl ?_
                  refine wp_s (i := .aload_n 0) (n := 1) (pc' := 178) (st' := [.ref 114, dz_I 10, .ref 114]) rfl rfl ?_
                  refine wq_gi (idx := 104) (pc' := 181) rfl rfl ho_M rfl rfl ?_
                  refine wq_2 (i := .imul) (z := 10 * (s15 114 29 0)) (pc' := 182) rfl rfl (op_mul _ _) rfl ?_
                  refine wp_s (i := .aload_n 0) (n := 1) (pc' := 183) (st' := [.ref 114, dz_I (10 * (s15 114 29 0)), .ref 114]) rfl rfl ?_
                  refine wp_s (i := .aload_n 0) (n := 1) (pc' := 184) (st' := [.ref 114, .ref 114, dz_I (10 * (s15 114 29 0)), .ref 114]) rfl rfl ?_
                  refine wq_gi (idx := 97) (pc' := 187) rfl rfl ho_M rfl rfl ?_
                  refine wq_cv (Dq := D) (r' := mm_r123) (as0 := [dz_I (s15 114 26 0)]) (rest := [dz_I (10 * (s15 114 29 0)), .ref 114]) (ls' := [some (.ref 114), some (dz_I (s15 114 26 0))]) (pc' := 190) rfl rfl rfl rfl ho_M rfl rfl rfl ?_
                  refine jw_M_byteAt (X := X) (D := D + 0) (s15 114 26 0) s15 (dz_pm (dz_bi H) (fun q27 H => ?_))
                  show mm_Wp X (D + 1) mm_r126 190 [some (.ref 114), some (dz_I q6)] [dz_I q27, dz_I (10 * (s15 114 29 0)), .ref 114] (hz_0 s15) Q
                  refine wq_2 (i := .iadd) (z := (10 * (s15 114 29 0)) + q27) (pc' := 191) rfl rfl (op_add _ _) rfl ?_
                  refine wp_s (i := .bipush 48) (n := 2) (pc' := 193) (st' := [dz_I 48, dz_I ((10 * (s15 114 29 0)) + q27), .ref 114]) rfl rfl ?_
                  refine wq_2 (i := .isub) (z := ((10 * (s15 114 29 0)) + q27) - 48) (pc' := 194) rfl rfl (op_sub _ _) rfl ?_
                  refine wp_s (i := .goto 7) (n := 3) (pc' := 201) (st' := [dz_I (((10 * (s15 114 29 0)) + q27) - 48), .ref 114]) rfl rfl ?_
                  replace H := dz_sm H
                  exact H
        · replace H := dz_if c9 H
          refine dz_lpi (P := fun (s28 : dz_Z) => mm_Wp X (D + 1) mm_r126 84 [some (.ref 114), some (dz_I q6)] [] (hz_0 s28) Q) (fun s28 H => ?_) 5000 Z7 H
          refine wp_s (i := .aload_n 0) (n := 1) (pc' := 85) (st' := [.ref 114]) rfl rfl ?_
          refine wp_s (i := .aload_n 0) (n := 1) (pc' := 86) (st' := [.ref 114, .ref 114]) rfl rfl ?_
          refine wq_gi (idx := 97) (pc' := 89) rfl rfl ho_M rfl rfl ?_
          refine wq_cv (Dq := D) (r' := mm_r123) (as0 := [dz_I (s28 114 26 0)]) (rest := []) (ls' := [some (.ref 114), some (dz_I (s28 114 26 0))]) (pc' := 92) rfl rfl rfl rfl ho_M rfl rfl rfl ?_
          refine jw_M_byteAt (X := X) (D := D + 0) (s28 114 26 0) s28 (dz_pm (dz_bi H) (fun q29 H => ?_))
          show mm_Wp X (D + 1) mm_r126 92 [some (.ref 114), some (dz_I q6)] [dz_I q29] (hz_0 s28) Q
          refine wq_3 (i := .i2l) (v' := dz_J (dz_c q29)) (pc' := 93) rfl rfl (oq_i2l' rfl) rfl ?_
          refine wp_s (i := .ldc2_w 107) (n := 3) (pc' := 96) (st' := [dz_J 97, dz_J (dz_c q29)]) rfl rfl ?_
          refine wp_s (i := .ldc2_w 109) (n := 3) (pc' := 99) (st' := [dz_J 122, dz_J 97, dz_J (dz_c q29)]) rfl rfl ?_
          refine wq_cs (Dq := D) (r' := mm_r120) (as0 := [dz_J (dz_c q29), dz_J 97, dz_J 122]) (rest := []) (ls' := [some (dz_J (dz_c q29)), none, some (dz_J 97), none, some (dz_J 122), none]) (pc' := 102) rfl rfl (by decide) rfl rfl rfl rfl rfl ?_
          refine jw_in (a' := dz_c q29) (b' := 97) (c' := 122) (dz_lc _) (by decide) (by decide) ?_
          show mm_Wp X (D + 1) mm_r126 102 [some (.ref 114), some (dz_I q6)] [dz_B (decide (97 ≤ dz_c q29 ∧ dz_c q29 ≤ 122))] (hz_0 s28) Q
          refine wq_if (p := ¬(97 ≤ dz_c q29 ∧ dz_c q29 ≤ 122)) (tt := 118) (pc' := 105) rfl rfl (cd_eq) rfl (fun c30 => ?_) (fun c30 => ?_)
          · replace H := dz_it c30 H
            refine wp_s (i := .aload_n 0) (n := 1) (pc' := 119) (st' := [.ref 114]) rfl rfl ?_
            refine wp_s (i := .iconst 1) (n := 1) (pc' := 120) (st' := [dz_I 1, .ref 114]) rfl rfl ?_
            refine wq_pi (idx := 94) (x := 1) (pc' := 123) rfl rfl rfl ho_M rfl rfl rfl rfl (fun Z31 eZ31 => ?_)
            replace H := dz_le H Z31 eZ31
            clear eZ31
            refine wp_s (i := .goto 146) (n := 3) (pc' := 269) (st' := []) rfl rfl ?_
            refine wq_rv rfl rfl ?_
            replace H := dz_out H
            replace H := dz_out H
            replace H := dz_sm H
            exact H
          · replace H := dz_if c30 H
            refine wp_s (i := .aload_n 0) (n := 1) (pc' := 106) (st' := [.ref 114]) rfl rfl ?_
            refine wp_s (i := .dup) (n := 1) (pc' := 107) (st' := [.ref 114, .ref 114]) rfl rfl ?_
            refine wq_gi (idx := 97) (pc' := 110) rfl rfl ho_M rfl rfl ?_
            refine wp_s (i := .iconst 1) (n := 1) (pc' := 111) (st' := [dz_I 1, dz_I (s28 114 26 0), .ref 114]) rfl rfl ?_
            refine wq_2 (i := .iadd) (z := (s28 114 26 0) + 1) (pc' := 112) rfl rfl (op_add _ _) rfl ?_
            refine wq_pi (idx := 97) (x := (s28 114 26 0) + 1) (pc' := 115) rfl rfl rfl ho_M rfl rfl rfl rfl (fun Z32 eZ32 => ?_)
            replace H := dz_le H Z32 eZ32
            clear eZ32
            refine wp_s (i := .goto (-31)) (n := 3) (pc' := 84) (st' := []) rfl rfl ?_
            replace H := dz_back H
            exact H
      · replace H := dz_if c8 H
        refine wp_s (i := .aload_n 0) (n := 1) (pc' := 63) (st' := [.ref 114]) rfl rfl ?_
        refine wp_s (i := .iconst 0) (n := 1) (pc' := 64) (st' := [dz_I 0, .ref 114]) rfl rfl ?_
        refine wq_pi (idx := 94) (x := 0) (pc' := 67) rfl rfl rfl ho_M rfl rfl rfl rfl (fun Z33 eZ33 => ?_)
        replace H := dz_le H Z33 eZ33
        clear eZ33
        refine wp_s (i := .goto 202) (n := 3) (pc' := 269) (st' := []) rfl rfl ?_
        refine wq_rv rfl rfl ?_
        replace H := dz_out H
        replace H := dz_sm H
        exact H
    · replace H := dz_if c4 H
      refine wp_s (i := .aload_n 0) (n := 1) (pc' := 22) (st' := [.ref 114]) rfl rfl ?_
      refine wp_s (i := .dup) (n := 1) (pc' := 23) (st' := [.ref 114, .ref 114]) rfl rfl ?_
      refine wq_gi (idx := 97) (pc' := 26) rfl rfl ho_M rfl rfl ?_
      refine wp_s (i := .iconst 1) (n := 1) (pc' := 27) (st' := [dz_I 1, dz_I (s2 114 26 0), .ref 114]) rfl rfl ?_
      refine wq_2 (i := .iadd) (z := (s2 114 26 0) + 1) (pc' := 28) rfl rfl (op_add _ _) rfl ?_
      refine wq_pi (idx := 97) (x := (s2 114 26 0) + 1) (pc' := 31) rfl rfl rfl ho_M rfl rfl rfl rfl (fun Z34 eZ34 => ?_)
      replace H := dz_le H Z34 eZ34
      clear eZ34
      refine wp_s (i := .goto (-23)) (n := 3) (pc' := 8) (st' := []) rfl rfl ?_
      replace H := dz_back H
      exact H
  · replace H := dz_if c1 H
    refine wq_rv rfl rfl ?_
    replace H := dz_sm H
    exact H
-- 127
def jf_M_looks (a1 : Int) (a2 : Int) (Z : dz_Z) : Option (dz_Z) := Option.bind (α := dz_Z) (if dz_c (Z 114 24 0) ≠ 0 then (some Z) else (if dz_c (Z 114 28 0) = 2 then (some Z) else (Option.bind (jf_M_fails 2 Z) fun q10 => some q10))) (fun (q4 : dz_Z) => if dz_c (q4 114 24 0) ≠ 0 then (some q4) else (if dz_c a1 ≤ dz_c (q4 114 29 0) ∧ dz_c (q4 114 29 0) ≤ dz_c a2 then (some q4) else (Option.bind (jf_M_fails 3 q4) fun q7 => some q7)))
set_option maxRecDepth 20000 in
theorem jw_M_looks {X : Option (List Int32)} {D : Nat} {Q : Option Value → mm_H → Prop} (a1 : Int) (a2 : Int) (Z : dz_Z) (H : dz_p (jf_M_looks a1 a2 Z) (fun q => Q (none) (hz_0 q))) : mm_Wp X (D + 1) mm_r127 0 [some (.ref 114), some (dz_I a1), some (dz_I a2)] [] (hz_0 Z) Q := by
  unfold jf_M_looks at H
  refine wp_s (i := .aload_n 0) (n := 1) (pc' := 1) (st' := [.ref 114]) rfl rfl ?_
  refine wq_gi (idx := 85) (pc' := 4) rfl rfl ho_M rfl rfl ?_
  refine dz_jn (P := fun (q4 : dz_Z) => mm_Wp X (D + 1) mm_r127 20 [some (.ref 114), some (dz_I a1), some (dz_I a2)] [] (hz_0 q4) Q) (dz_bi H) (fun q4 H => ?_) (fun H => ?_)
  · skip
    refine wp_s (i := .aload_n 0) (n := 1) (pc' := 21) (st' := [.ref 114]) rfl rfl ?_
    refine wq_gi (idx := 85) (pc' := 24) rfl rfl ho_M rfl rfl ?_
    refine wq_if (p := dz_c (q4 114 24 0) ≠ 0) (tt := 47) (pc' := 27) rfl rfl (cz_ne rfl) rfl (fun c5 => ?_) (fun c5 => ?_)
    · replace H := dz_it c5 H
      refine wq_rv rfl rfl ?_
      replace H := dz_sm H
      exact H
    · replace H := dz_if c5 H
      refine wp_s (i := .aload_n 0) (n := 1) (pc' := 28) (st' := [.ref 114]) rfl rfl ?_
      refine wq_gi (idx := 104) (pc' := 31) rfl rfl ho_M rfl rfl ?_
      refine wq_3 (i := .i2l) (v' := dz_J (dz_c (q4 114 29 0))) (pc' := 32) rfl rfl (oq_i2l' rfl) rfl ?_
      refine wp_s (i := .iload_n 1) (n := 1) (pc' := 33) (st' := [dz_I a1, dz_J (dz_c (q4 114 29 0))]) rfl rfl ?_
      refine wq_3 (i := .i2l) (v' := dz_J (dz_c a1)) (pc' := 34) rfl rfl (oq_i2l' rfl) rfl ?_
      refine wp_s (i := .iload_n 2) (n := 1) (pc' := 35) (st' := [dz_I a2, dz_J (dz_c a1), dz_J (dz_c (q4 114 29 0))]) rfl rfl ?_
      refine wq_3 (i := .i2l) (v' := dz_J (dz_c a2)) (pc' := 36) rfl rfl (oq_i2l' rfl) rfl ?_
      refine wq_cs (Dq := D) (r' := mm_r120) (as0 := [dz_J (dz_c (q4 114 29 0)), dz_J (dz_c a1), dz_J (dz_c a2)]) (rest := []) (ls' := [some (dz_J (dz_c (q4 114 29 0))), none, some (dz_J (dz_c a1)), none, some (dz_J (dz_c a2)), none]) (pc' := 39) rfl rfl (by decide) rfl rfl rfl rfl rfl ?_
      refine jw_in (a' := dz_c (q4 114 29 0)) (b' := dz_c a1) (c' := dz_c a2) (dz_lc _) (dz_lc _) (dz_lc _) ?_
      show mm_Wp X (D + 1) mm_r127 39 [some (.ref 114), some (dz_I a1), some (dz_I a2)] [dz_B (decide (dz_c a1 ≤ dz_c (q4 114 29 0) ∧ dz_c (q4 114 29 0) ≤ dz_c a2))] (hz_0 q4) Q
      refine wq_if (p := dz_c a1 ≤ dz_c (q4 114 29 0) ∧ dz_c (q4 114 29 0) ≤ dz_c a2) (tt := 47) (pc' := 42) rfl rfl (cd_ne) rfl (fun c6 => ?_) (fun c6 => ?_)
      · replace H := dz_it c6 H
        refine wq_rv rfl rfl ?_
        replace H := dz_sm H
        exact H
      · replace H := dz_if c6 H
        refine wp_s (i := .aload_n 0) (n := 1) (pc' := 43) (st' := [.ref 114]) rfl rfl ?_
        refine wp_s (i := .iconst 3) (n := 1) (pc' := 44) (st' := [dz_I 3, .ref 114]) rfl rfl ?_
        refine wq_cv (Dq := D) (r' := mm_r124) (as0 := [dz_I 3]) (rest := []) (ls' := [some (.ref 114), some (dz_I 3)]) (pc' := 47) rfl rfl rfl rfl ho_M rfl rfl rfl ?_
        refine jw_M_fails (X := X) (D := D + 0) 3 q4 (dz_pm (dz_bi H) (fun q7 H => ?_))
        show mm_Wp X (D + 1) mm_r127 47 [some (.ref 114), some (dz_I a1), some (dz_I a2)] [] (hz_0 q7) Q
        refine wq_rv rfl rfl ?_
        replace H := dz_sm H
        exact H
  · skip
    refine wq_if (p := dz_c (Z 114 24 0) ≠ 0) (tt := 20) (pc' := 7) rfl rfl (cz_ne rfl) rfl (fun c8 => ?_) (fun c8 => ?_)
    · replace H := dz_it c8 H
      replace H := dz_sm H
      exact H
    · replace H := dz_if c8 H
      refine wp_s (i := .aload_n 0) (n := 1) (pc' := 8) (st' := [.ref 114]) rfl rfl ?_
      refine wq_gi (idx := 94) (pc' := 11) rfl rfl ho_M rfl rfl ?_
      refine wp_s (i := .iconst 2) (n := 1) (pc' := 12) (st' := [dz_I 2, dz_I (Z 114 28 0)]) rfl rfl ?_
      refine wq_ic (p := dz_c (Z 114 28 0) = 2) (tt := 20) (pc' := 15) rfl rfl (cq_eq rfl dk_2) rfl (fun c9 => ?_) (fun c9 => ?_)
      · replace H := dz_it c9 H
        replace H := dz_sm H
        exact H
      · replace H := dz_if c9 H
        refine wp_s (i := .aload_n 0) (n := 1) (pc' := 16) (st' := [.ref 114]) rfl rfl ?_
        refine wp_s (i := .iconst 2) (n := 1) (pc' := 17) (st' := [dz_I 2, .ref 114]) rfl rfl ?_
        refine wq_cv (Dq := D) (r' := mm_r124) (as0 := [dz_I 2]) (rest := []) (ls' := [some (.ref 114), some (dz_I 2)]) (pc' := 20) rfl rfl rfl rfl ho_M rfl rfl rfl ?_
        refine jw_M_fails (X := X) (D := D + 0) 2 Z (dz_pm (dz_bi H) (fun q10 H => ?_))
        show mm_Wp X (D + 1) mm_r127 20 [some (.ref 114), some (dz_I a1), some (dz_I a2)] [] (hz_0 q10) Q
        replace H := dz_sm H
        exact H
-- 128
def jf_M_number (a1 : Int) (a2 : Int) (Z : dz_Z) : Option (Int × dz_Z) := Option.bind (jf_M_looks a1 a2 Z) fun q1 => Option.bind (α := Int) (if dz_c (q1 114 24 0) ≠ 0 then (some a1) else (some (q1 114 29 0))) (fun (q3 : Int) => Option.bind (jf_M_step q1) fun q4 => some (q3, q4))
set_option maxRecDepth 20000 in
theorem jw_M_number {X : Option (List Int32)} {D : Nat} {Q : Option Value → mm_H → Prop} (a1 : Int) (a2 : Int) (Z : dz_Z) (H : dz_p (jf_M_number a1 a2 Z) (fun q => Q (some (dz_I q.1)) (hz_0 q.2))) : mm_Wp X (D + 2) mm_r128 0 [some (.ref 114), some (dz_I a1), some (dz_I a2), none] [] (hz_0 Z) Q := by
  unfold jf_M_number at H
  refine wp_s (i := .aload_n 0) (n := 1) (pc' := 1) (st' := [.ref 114]) rfl rfl ?_
  refine wp_s (i := .iload_n 1) (n := 1) (pc' := 2) (st' := [dz_I a1, .ref 114]) rfl rfl ?_
  refine wp_s (i := .iload_n 2) (n := 1) (pc' := 3) (st' := [dz_I a2, dz_I a1, .ref 114]) rfl rfl ?_
  refine wq_cv (Dq := (D + 1)) (r' := mm_r127) (as0 := [dz_I a1, dz_I a2]) (rest := []) (ls' := [some (.ref 114), some (dz_I a1), some (dz_I a2)]) (pc' := 6) rfl rfl rfl rfl ho_M rfl rfl rfl ?_
  refine jw_M_looks (X := X) (D := D + 0) a1 a2 Z (dz_pm (dz_bi H) (fun q1 H => ?_))
  show mm_Wp X (D + 2) mm_r128 6 [some (.ref 114), some (dz_I a1), some (dz_I a2), none] [] (hz_0 q1) Q
  refine wp_s (i := .aload_n 0) (n := 1) (pc' := 7) (st' := [.ref 114]) rfl rfl ?_
  refine wq_gi (idx := 85) (pc' := 10) rfl rfl ho_M rfl rfl ?_
  refine dz_jn (P := fun (q3 : Int) => mm_Wp X (D + 2) mm_r128 21 [some (.ref 114), some (dz_I a1), some (dz_I a2), none] [dz_I q3] (hz_0 q1) Q) (dz_bi H) (fun q3 H => ?_) (fun H => ?_)
  · skip
    refine wq_st (k := 3) (i := .istore_n 3) (n := 1) (ls' := [some (.ref 114), some (dz_I a1), some (dz_I a2), some (dz_I q3)]) (pc' := 22) rfl rfl rfl rfl rfl ?_
    refine wp_s (i := .aload_n 0) (n := 1) (pc' := 23) (st' := [.ref 114]) rfl rfl ?_
    refine wq_cv (Dq := (D + 1)) (r' := mm_r126) (as0 := []) (rest := []) (ls' := [some (.ref 114), none]) (pc' := 26) rfl rfl rfl rfl ho_M rfl rfl rfl ?_
    refine jw_M_step (X := X) (D := D + 0) q1 (dz_pm (dz_bi H) (fun q4 H => ?_))
    show mm_Wp X (D + 2) mm_r128 26 [some (.ref 114), some (dz_I a1), some (dz_I a2), some (dz_I q3)] [] (hz_0 q4) Q
    refine wp_s (i := .iload_n 3) (n := 1) (pc' := 27) (st' := [dz_I q3]) rfl rfl ?_
    refine wq_ri rfl rfl ?_
    replace H := dz_sm H
    exact H
  · skip
    refine wq_if (p := dz_c (q1 114 24 0) ≠ 0) (tt := 20) (pc' := 13) rfl rfl (cz_ne rfl) rfl (fun c5 => ?_) (fun c5 => ?_)
    · replace H := dz_it c5 H
      refine wp_s (i := .iload_n 1) (n := 1) (pc' := 21) (st' := [dz_I a1]) rfl rfl ?_
      replace H := dz_sm H
      exact H
    · replace H := dz_if c5 H
      refine wp_s (i := .aload_n 0) (n := 1) (pc' := 14) (st' := [.ref 114]) rfl rfl ?_
      refine wq_gi (idx := 104) (pc' := 17) rfl rfl ho_M rfl rfl ?_
      refine wp_s (i := .goto 4) (n := 3) (pc' := 21) (st' := [dz_I (q1 114 29 0)]) rfl rfl ?_
      replace H := dz_sm H
      exact H
-- 129
def jf_M_readWay (a1 : Int) (Z : dz_Z) : Option (Int × dz_Z) := Option.bind (jf_M_nameHere Z) fun q1 => if dz_c q1 ≠ 7 then (if dz_c q1 ≠ 2 then (Option.bind (α := dz_Z) (if dz_c q1 = 8 then (some Z) else (Option.bind (jf_M_fails 2 Z) fun q9 => some q9)) (fun (q6 : dz_Z) => Option.bind (jf_M_step q6) fun q7 => some (20, q7))) else (Option.bind (jf_M_step Z) fun q10 => Option.bind (jf_M_number 0 7 q10) fun q11 => Option.bind (α := Int) (if dz_c q11.1 ≤ dz_c (q11.2 114 19 0) then (some (q11.2 114 19 0)) else (some q11.1)) (fun (q13 : Int) => dz_a (dz_u q11.2 114 19 0 q13) fun Z14 => some (10 + q11.1, Z14)))) else (Option.bind (jf_M_step Z) fun q16 => Option.bind (jf_M_looks 0 4 q16) fun q17 => Option.bind (α := dz_Z) (if dz_c (q17 114 24 0) ≠ 0 then (some q17) else (if dz_c a1 < dz_c (q17 114 29 0) then (some q17) else (Option.bind (jf_M_fails 3 q17) fun q32 => some q32))) (fun (q21 : dz_Z) => Option.bind (α := Int) (if dz_c (q21 114 24 0) ≠ 0 then (some 0) else (some (q21 114 29 0))) (fun (q23 : Int) => Option.bind (α := Int) (if dz_c q23 ≤ dz_c (q21 114 18 0) then (some (q21 114 18 0)) else (some q23)) (fun (q25 : Int) => dz_a (dz_u q21 114 18 0 q25) fun Z26 => Option.bind (jf_M_step Z26) fun q27 => some (q23, q27)))))
set_option maxRecDepth 20000 in
theorem jw_M_readWay {X : Option (List Int32)} {D : Nat} {Q : Option Value → mm_H → Prop} (a1 : Int) (Z : dz_Z) (H : dz_p (jf_M_readWay a1 Z) (fun q => Q (some (dz_I q.1)) (hz_0 q.2))) : mm_Wp X (D + 3) mm_r129 0 [some (.ref 114), some (dz_I a1), none, none] [] (hz_0 Z) Q := by
  unfold jf_M_readWay at H
  refine wp_s (i := .aload_n 0) (n := 1) (pc' := 1) (st' := [.ref 114]) rfl rfl ?_
  refine wq_cv (Dq := (D + 2)) (r' := mm_r125) (as0 := []) (rest := []) (ls' := [some (.ref 114), none, none, none]) (pc' := 4) rfl rfl rfl rfl ho_M rfl rfl rfl ?_
  refine jw_M_nameHere (X := X) (D := D + 1) Z (dz_pm (dz_bi H) (fun q1 H => ?_))
  show mm_Wp X (D + 3) mm_r129 4 [some (.ref 114), some (dz_I a1), none, none] [dz_I q1] (hz_0 Z) Q
  refine wq_st (k := 2) (i := .istore_n 2) (n := 1) (ls' := [some (.ref 114), some (dz_I a1), some (dz_I q1), none]) (pc' := 5) rfl rfl rfl rfl rfl ?_
  refine wp_s (i := .iload_n 2) (n := 1) (pc' := 6) (st' := [dz_I q1]) rfl rfl ?_
  refine wp_s (i := .bipush 7) (n := 2) (pc' := 8) (st' := [dz_I 7, dz_I q1]) rfl rfl ?_
  refine wq_ic (p := dz_c q1 ≠ 7) (tt := 83) (pc' := 11) rfl rfl (cq_ne rfl dk_7) rfl (fun c2 => ?_) (fun c2 => ?_)
  · replace H := dz_it c2 H
    refine wp_s (i := .iload_n 2) (n := 1) (pc' := 84) (st' := [dz_I q1]) rfl rfl ?_
    refine wp_s (i := .iconst 2) (n := 1) (pc' := 85) (st' := [dz_I 2, dz_I q1]) rfl rfl ?_
    refine wq_ic (p := dz_c q1 ≠ 2) (tt := 125) (pc' := 88) rfl rfl (cq_ne rfl dk_2) rfl (fun c3 => ?_) (fun c3 => ?_)
    · replace H := dz_it c3 H
      refine wp_s (i := .iload_n 2) (n := 1) (pc' := 126) (st' := [dz_I q1]) rfl rfl ?_
      refine wp_s (i := .bipush 8) (n := 2) (pc' := 128) (st' := [dz_I 8, dz_I q1]) rfl rfl ?_
      refine dz_jn (P := fun (q6 : dz_Z) => mm_Wp X (D + 3) mm_r129 136 [some (.ref 114), some (dz_I a1), some (dz_I q1), none] [] (hz_0 q6) Q) (dz_bi H) (fun q6 H => ?_) (fun H => ?_)
      · skip
        refine wp_s (i := .aload_n 0) (n := 1) (pc' := 137) (st' := [.ref 114]) rfl rfl ?_
        refine wq_cv (Dq := (D + 2)) (r' := mm_r126) (as0 := []) (rest := []) (ls' := [some (.ref 114), none]) (pc' := 140) rfl rfl rfl rfl ho_M rfl rfl rfl ?_
        refine jw_M_step (X := X) (D := D + 1) q6 (dz_pm (dz_bi H) (fun q7 H => ?_))
        show mm_Wp X (D + 3) mm_r129 140 [some (.ref 114), some (dz_I a1), some (dz_I q1), none] [] (hz_0 q7) Q
        refine wp_s (i := .bipush 20) (n := 2) (pc' := 142) (st' := [dz_I 20]) rfl rfl ?_
        refine wq_ri rfl rfl ?_
        replace H := dz_sm H
        exact H
      · skip
        refine wq_ic (p := dz_c q1 = 8) (tt := 136) (pc' := 131) rfl rfl (cq_eq rfl dk_8) rfl (fun c8 => ?_) (fun c8 => ?_)
        · replace H := dz_it c8 H
          replace H := dz_sm H
          exact H
        · replace H := dz_if c8 H
          refine wp_s (i := .aload_n 0) (n := 1) (pc' := 132) (st' := [.ref 114]) rfl rfl ?_
          refine wp_s (i := .iconst 2) (n := 1) (pc' := 133) (st' := [dz_I 2, .ref 114]) rfl rfl ?_
          refine wq_cv (Dq := (D + 2)) (r' := mm_r124) (as0 := [dz_I 2]) (rest := []) (ls' := [some (.ref 114), some (dz_I 2)]) (pc' := 136) rfl rfl rfl rfl ho_M rfl rfl rfl ?_
          refine jw_M_fails (X := X) (D := D + 2) 2 Z (dz_pm (dz_bi H) (fun q9 H => ?_))
          show mm_Wp X (D + 3) mm_r129 136 [some (.ref 114), some (dz_I a1), some (dz_I q1), none] [] (hz_0 q9) Q
          replace H := dz_sm H
          exact H
    · replace H := dz_if c3 H
      refine wp_s (i := .aload_n 0) (n := 1) (pc' := 89) (st' := [.ref 114]) rfl rfl ?_
      refine wq_cv (Dq := (D + 2)) (r' := mm_r126) (as0 := []) (rest := []) (ls' := [some (.ref 114), none]) (pc' := 92) rfl rfl rfl rfl ho_M rfl rfl rfl ?_
      refine jw_M_step (X := X) (D := D + 1) Z (dz_pm (dz_bi H) (fun q10 H => ?_))
      show mm_Wp X (D + 3) mm_r129 92 [some (.ref 114), some (dz_I a1), some (dz_I q1), none] [] (hz_0 q10) Q
      refine wp_s (i := .aload_n 0) (n := 1) (pc' := 93) (st' := [.ref 114]) rfl rfl ?_
      refine wp_s (i := .iconst 0) (n := 1) (pc' := 94) (st' := [dz_I 0, .ref 114]) rfl rfl ?_
      refine wp_s (i := .bipush 7) (n := 2) (pc' := 96) (st' := [dz_I 7, dz_I 0, .ref 114]) rfl rfl ?_
      refine wq_cv (Dq := (D + 2)) (r' := mm_r128) (as0 := [dz_I 0, dz_I 7]) (rest := []) (ls' := [some (.ref 114), some (dz_I 0), some (dz_I 7), none]) (pc' := 99) rfl rfl rfl rfl ho_M rfl rfl rfl ?_
      refine jw_M_number (X := X) (D := D + 0) 0 7 q10 (dz_pm (dz_bi H) (fun q11 H => ?_))
      show mm_Wp X (D + 3) mm_r129 99 [some (.ref 114), some (dz_I a1), some (dz_I q1), none] [dz_I q11.1] (hz_0 q11.2) Q
      refine wq_st (k := 3) (i := .istore_n 3) (n := 1) (ls' := [some (.ref 114), some (dz_I a1), some (dz_I q1), some (dz_I q11.1)]) (pc' := 100) rfl rfl rfl rfl rfl ?_
      refine wp_s (i := .aload_n 0) (n := 1) (pc' := 101) (st' := [.ref 114]) rfl rfl ?_
      refine wp_s (i := .iload_n 3) (n := 1) (pc' := 102) (st' := [dz_I q11.1, .ref 114]) rfl rfl ?_
      refine wp_s (i := .aload_n 0) (n := 1) (pc' := 103) (st' := [.ref 114, dz_I q11.1, .ref 114]) rfl rfl ?_
      refine wq_gi (idx := 137) (pc' := 106) rfl rfl ho_M rfl rfl ?_
      refine dz_jn (P := fun (q13 : Int) => mm_Wp X (D + 3) mm_r129 117 [some (.ref 114), some (dz_I a1), some (dz_I q1), some (dz_I q11.1)] [dz_I q13, .ref 114] (hz_0 q11.2) Q) (dz_bi H) (fun q13 H => ?_) (fun H => ?_)
      · skip
        refine wq_pi (idx := 137) (x := q13) (pc' := 120) rfl rfl rfl ho_M rfl rfl rfl rfl (fun Z14 eZ14 => ?_)
        replace H := dz_le H Z14 eZ14
        clear eZ14
        refine wp_s (i := .bipush 10) (n := 2) (pc' := 122) (st' := [dz_I 10]) rfl rfl ?_
        refine wp_s (i := .iload_n 3) (n := 1) (pc' := 123) (st' := [dz_I q11.1, dz_I 10]) rfl rfl ?_
        refine wq_2 (i := .iadd) (z := 10 + q11.1) (pc' := 124) rfl rfl (op_add _ _) rfl ?_
        refine wq_ri rfl rfl ?_
        replace H := dz_sm H
        exact H
      · skip
        refine wq_ic (p := dz_c q11.1 ≤ dz_c (q11.2 114 19 0)) (tt := 113) (pc' := 109) rfl rfl (cq_le rfl rfl) rfl (fun c15 => ?_) (fun c15 => ?_)
        · replace H := dz_it c15 H
          refine wp_s (i := .aload_n 0) (n := 1) (pc' := 114) (st' := [.ref 114, .ref 114]) rfl rfl ?_
          refine wq_gi (idx := 137) (pc' := 117) rfl rfl ho_M rfl rfl ?_
          replace H := dz_sm H
          exact H
        · replace H := dz_if c15 H
          refine wp_s (i := .iload_n 3) (n := 1) (pc' := 110) (st' := [dz_I q11.1, .ref 114]) rfl rfl ?_
          refine wp_s (i := .goto 7) (n := 3) (pc' := 117) (st' := [dz_I q11.1, .ref 114]) rfl rfl ?_
          replace H := dz_sm H
          exact H
  · replace H := dz_if c2 H
    refine wp_s (i := .aload_n 0) (n := 1) (pc' := 12) (st' := [.ref 114]) rfl rfl ?_
    refine wq_cv (Dq := (D + 2)) (r' := mm_r126) (as0 := []) (rest := []) (ls' := [some (.ref 114), none]) (pc' := 15) rfl rfl rfl rfl ho_M rfl rfl rfl ?_
    refine jw_M_step (X := X) (D := D + 1) Z (dz_pm (dz_bi H) (fun q16 H => ?_))
    show mm_Wp X (D + 3) mm_r129 15 [some (.ref 114), some (dz_I a1), some (dz_I q1), none] [] (hz_0 q16) Q
    refine wp_s (i := .aload_n 0) (n := 1) (pc' := 16) (st' := [.ref 114]) rfl rfl ?_
    refine wp_s (i := .iconst 0) (n := 1) (pc' := 17) (st' := [dz_I 0, .ref 114]) rfl rfl ?_
    refine wp_s (i := .iconst 4) (n := 1) (pc' := 18) (st' := [dz_I 4, dz_I 0, .ref 114]) rfl rfl ?_
    refine wq_cv (Dq := (D + 2)) (r' := mm_r127) (as0 := [dz_I 0, dz_I 4]) (rest := []) (ls' := [some (.ref 114), some (dz_I 0), some (dz_I 4)]) (pc' := 21) rfl rfl rfl rfl ho_M rfl rfl rfl ?_
    refine jw_M_looks (X := X) (D := D + 1) 0 4 q16 (dz_pm (dz_bi H) (fun q17 H => ?_))
    show mm_Wp X (D + 3) mm_r129 21 [some (.ref 114), some (dz_I a1), some (dz_I q1), none] [] (hz_0 q17) Q
    refine wp_s (i := .aload_n 0) (n := 1) (pc' := 22) (st' := [.ref 114]) rfl rfl ?_
    refine wq_gi (idx := 85) (pc' := 25) rfl rfl ho_M rfl rfl ?_
    refine dz_jn (P := fun (q21 : dz_Z) => mm_Wp X (D + 3) mm_r129 41 [some (.ref 114), some (dz_I a1), some (dz_I q1), none] [] (hz_0 q21) Q) (dz_bi H) (fun q21 H => ?_) (fun H => ?_)
    · skip
      refine wp_s (i := .aload_n 0) (n := 1) (pc' := 42) (st' := [.ref 114]) rfl rfl ?_
      refine wq_gi (idx := 85) (pc' := 45) rfl rfl ho_M rfl rfl ?_
      refine dz_jn (P := fun (q23 : Int) => mm_Wp X (D + 3) mm_r129 56 [some (.ref 114), some (dz_I a1), some (dz_I q1), none] [dz_I q23] (hz_0 q21) Q) (dz_bi H) (fun q23 H => ?_) (fun H => ?_)
      · skip
        refine wq_st (k := 3) (i := .istore_n 3) (n := 1) (ls' := [some (.ref 114), some (dz_I a1), some (dz_I q1), some (dz_I q23)]) (pc' := 57) rfl rfl rfl rfl rfl ?_
        refine wp_s (i := .aload_n 0) (n := 1) (pc' := 58) (st' := [.ref 114]) rfl rfl ?_
        refine wp_s (i := .iload_n 3) (n := 1) (pc' := 59) (st' := [dz_I q23, .ref 114]) rfl rfl ?_
        refine wp_s (i := .aload_n 0) (n := 1) (pc' := 60) (st' := [.ref 114, dz_I q23, .ref 114]) rfl rfl ?_
        refine wq_gi (idx := 130) (pc' := 63) rfl rfl ho_M rfl rfl ?_
        refine dz_jn (P := fun (q25 : Int) => mm_Wp X (D + 3) mm_r129 74 [some (.ref 114), some (dz_I a1), some (dz_I q1), some (dz_I q23)] [dz_I q25, .ref 114] (hz_0 q21) Q) (dz_bi H) (fun q25 H => ?_) (fun H => ?_)
        · skip
          refine wq_pi (idx := 130) (x := q25) (pc' := 77) rfl rfl rfl ho_M rfl rfl rfl rfl (fun Z26 eZ26 => ?_)
          replace H := dz_le H Z26 eZ26
          clear eZ26
          refine wp_s (i := .aload_n 0) (n := 1) (pc' := 78) (st' := [.ref 114]) rfl rfl ?_
          refine wq_cv (Dq := (D + 2)) (r' := mm_r126) (as0 := []) (rest := []) (ls' := [some (.ref 114), none]) (pc' := 81) rfl rfl rfl rfl ho_M rfl rfl rfl ?_
          refine jw_M_step (X := X) (D := D + 1) Z26 (dz_pm (dz_bi H) (fun q27 H => ?_))
          show mm_Wp X (D + 3) mm_r129 81 [some (.ref 114), some (dz_I a1), some (dz_I q1), some (dz_I q23)] [] (hz_0 q27) Q
          refine wp_s (i := .iload_n 3) (n := 1) (pc' := 82) (st' := [dz_I q23]) rfl rfl ?_
          refine wq_ri rfl rfl ?_
          replace H := dz_sm H
          exact H
        · skip
          refine wq_ic (p := dz_c q23 ≤ dz_c (q21 114 18 0)) (tt := 70) (pc' := 66) rfl rfl (cq_le rfl rfl) rfl (fun c28 => ?_) (fun c28 => ?_)
          · replace H := dz_it c28 H
            refine wp_s (i := .aload_n 0) (n := 1) (pc' := 71) (st' := [.ref 114, .ref 114]) rfl rfl ?_
            refine wq_gi (idx := 130) (pc' := 74) rfl rfl ho_M rfl rfl ?_
            replace H := dz_sm H
            exact H
          · replace H := dz_if c28 H
            refine wp_s (i := .iload_n 3) (n := 1) (pc' := 67) (st' := [dz_I q23, .ref 114]) rfl rfl ?_
            refine wp_s (i := .goto 7) (n := 3) (pc' := 74) (st' := [dz_I q23, .ref 114]) rfl rfl ?_
            replace H := dz_sm H
            exact H
      · skip
        refine wq_if (p := dz_c (q21 114 24 0) ≠ 0) (tt := 55) (pc' := 48) rfl rfl (cz_ne rfl) rfl (fun c29 => ?_) (fun c29 => ?_)
        · replace H := dz_it c29 H
          refine wp_s (i := .iconst 0) (n := 1) (pc' := 56) (st' := [dz_I 0]) rfl rfl ?_
          replace H := dz_sm H
          exact H
        · replace H := dz_if c29 H
          refine wp_s (i := .aload_n 0) (n := 1) (pc' := 49) (st' := [.ref 114]) rfl rfl ?_
          refine wq_gi (idx := 104) (pc' := 52) rfl rfl ho_M rfl rfl ?_
          refine wp_s (i := .goto 4) (n := 3) (pc' := 56) (st' := [dz_I (q21 114 29 0)]) rfl rfl ?_
          replace H := dz_sm H
          exact H
    · skip
      refine wq_if (p := dz_c (q17 114 24 0) ≠ 0) (tt := 41) (pc' := 28) rfl rfl (cz_ne rfl) rfl (fun c30 => ?_) (fun c30 => ?_)
      · replace H := dz_it c30 H
        replace H := dz_sm H
        exact H
      · replace H := dz_if c30 H
        refine wp_s (i := .aload_n 0) (n := 1) (pc' := 29) (st' := [.ref 114]) rfl rfl ?_
        refine wq_gi (idx := 104) (pc' := 32) rfl rfl ho_M rfl rfl ?_
        refine wp_s (i := .iload_n 1) (n := 1) (pc' := 33) (st' := [dz_I a1, dz_I (q17 114 29 0)]) rfl rfl ?_
        refine wq_ic (p := dz_c a1 < dz_c (q17 114 29 0)) (tt := 41) (pc' := 36) rfl rfl (cq_gt rfl rfl) rfl (fun c31 => ?_) (fun c31 => ?_)
        · replace H := dz_it c31 H
          replace H := dz_sm H
          exact H
        · replace H := dz_if c31 H
          refine wp_s (i := .aload_n 0) (n := 1) (pc' := 37) (st' := [.ref 114]) rfl rfl ?_
          refine wp_s (i := .iconst 3) (n := 1) (pc' := 38) (st' := [dz_I 3, .ref 114]) rfl rfl ?_
          refine wq_cv (Dq := (D + 2)) (r' := mm_r124) (as0 := [dz_I 3]) (rest := []) (ls' := [some (.ref 114), some (dz_I 3)]) (pc' := 41) rfl rfl rfl rfl ho_M rfl rfl rfl ?_
          refine jw_M_fails (X := X) (D := D + 2) 3 q17 (dz_pm (dz_bi H) (fun q32 H => ?_))
          show mm_Wp X (D + 3) mm_r129 41 [some (.ref 114), some (dz_I a1), some (dz_I q1), none] [] (hz_0 q32) Q
          replace H := dz_sm H
          exact H
-- 130
def jf_M_readCup (a1 : Int) (Z : dz_Z) : Option (dz_Z) := Option.bind (jf_M_nameHere Z) fun q1 => if 0 ≤ dz_c (q1 - 9) ∧ dz_c (q1 - 9) ≤ 5 then (Option.bind (jf_M_step Z) fun q3 => if 0 ≤ dz_c (10 + a1) ∧ dz_c (10 + a1) < 140 then dz_a (dz_u q3 114 11 (dz_c (10 + a1)) (q1 - 9)) fun Z5 => if 0 ≤ dz_c (26 + a1) ∧ dz_c (26 + a1) < 140 then dz_a (dz_u Z5 114 11 (dz_c (26 + a1)) (-4)) fun Z7 => Option.bind (α := dz_Z) (if ¬(1 ≤ dz_c (q1 - 9) ∧ dz_c (q1 - 9) ≤ 4) then (some Z7) else (Option.bind (jf_M_number 1 30 Z7) fun q34 => if 0 ≤ dz_c (18 + a1) ∧ dz_c (18 + a1) < 140 then dz_a (dz_u q34.2 114 11 (dz_c (18 + a1)) q34.1) fun Z36 => some Z36 else none)) (fun (q12 : dz_Z) => if dz_c (q1 - 9) ≠ 4 then (some q12) else (Option.bind (jf_M_looks 0 7 q12) fun q14 => Option.bind (α := dz_Z) (if dz_c (q14 114 24 0) ≠ 0 then (some q14) else (if dz_c (q14 114 29 0) ≠ dz_c a1 then (some q14) else (Option.bind (jf_M_fails 3 q14) fun q32 => some q32))) (fun (q18 : dz_Z) => Option.bind (α := Int) (if dz_c (q18 114 24 0) ≠ 0 then (some 0) else (some (q18 114 29 0))) (fun (q20 : Int) => dz_a (dz_u q18 114 11 (dz_c (26 + a1)) q20) fun Z21 => Option.bind (α := Int) (if dz_c (Z21 114 29 0) ≤ dz_c (Z21 114 19 0) then (some (Z21 114 19 0)) else (if dz_c (Z21 114 24 0) ≠ 0 then (some (Z21 114 19 0)) else (some (Z21 114 29 0)))) (fun (q24 : Int) => dz_a (dz_u Z21 114 19 0 q24) fun Z25 => Option.bind (jf_M_step Z25) fun q26 => some q26))))) else none else none) else (Option.bind (jf_M_fails 2 Z) fun q37 => some q37)
set_option maxRecDepth 20000 in
theorem jw_M_readCup {X : Option (List Int32)} {D : Nat} {Q : Option Value → mm_H → Prop} (a1 : Int) (Z : dz_Z) (H : dz_p (jf_M_readCup a1 Z) (fun q => Q (none) (hz_0 q))) : mm_Wp X (D + 3) mm_r130 0 [some (.ref 114), some (dz_I a1), none] [] (hz_0 Z) Q := by
  unfold jf_M_readCup at H
  refine wp_s (i := .aload_n 0) (n := 1) (pc' := 1) (st' := [.ref 114]) rfl rfl ?_
  refine wq_cv (Dq := (D + 2)) (r' := mm_r125) (as0 := []) (rest := []) (ls' := [some (.ref 114), none, none, none]) (pc' := 4) rfl rfl rfl rfl ho_M rfl rfl rfl ?_
  refine jw_M_nameHere (X := X) (D := D + 1) Z (dz_pm (dz_bi H) (fun q1 H => ?_))
  show mm_Wp X (D + 3) mm_r130 4 [some (.ref 114), some (dz_I a1), none] [dz_I q1] (hz_0 Z) Q
  refine wp_s (i := .bipush 9) (n := 2) (pc' := 6) (st' := [dz_I 9, dz_I q1]) rfl rfl ?_
  refine wq_2 (i := .isub) (z := q1 - 9) (pc' := 7) rfl rfl (op_sub _ _) rfl ?_
  refine wq_st (k := 2) (i := .istore_n 2) (n := 1) (ls' := [some (.ref 114), some (dz_I a1), some (dz_I (q1 - 9))]) (pc' := 8) rfl rfl rfl rfl rfl ?_
  refine wp_s (i := .iload_n 2) (n := 1) (pc' := 9) (st' := [dz_I (q1 - 9)]) rfl rfl ?_
  refine wq_3 (i := .i2l) (v' := dz_J (dz_c (q1 - 9))) (pc' := 10) rfl rfl (oq_i2l' rfl) rfl ?_
  refine wp_s (i := .lconst 0) (n := 1) (pc' := 11) (st' := [dz_J 0, dz_J (dz_c (q1 - 9))]) rfl rfl ?_
  refine wp_s (i := .ldc2_w 140) (n := 3) (pc' := 14) (st' := [dz_J 5, dz_J 0, dz_J (dz_c (q1 - 9))]) rfl rfl ?_
  refine wq_cs (Dq := (D + 2)) (r' := mm_r120) (as0 := [dz_J (dz_c (q1 - 9)), dz_J 0, dz_J 5]) (rest := []) (ls' := [some (dz_J (dz_c (q1 - 9))), none, some (dz_J 0), none, some (dz_J 5), none]) (pc' := 17) rfl rfl (by decide) rfl rfl rfl rfl rfl ?_
  refine jw_in (a' := dz_c (q1 - 9)) (b' := 0) (c' := 5) (dz_lc _) (by decide) (by decide) ?_
  show mm_Wp X (D + 3) mm_r130 17 [some (.ref 114), some (dz_I a1), some (dz_I (q1 - 9))] [dz_B (decide (0 ≤ dz_c (q1 - 9) ∧ dz_c (q1 - 9) ≤ 5))] (hz_0 Z) Q
  refine wq_if (p := 0 ≤ dz_c (q1 - 9) ∧ dz_c (q1 - 9) ≤ 5) (tt := 26) (pc' := 20) rfl rfl (cd_ne) rfl (fun c2 => ?_) (fun c2 => ?_)
  · replace H := dz_it c2 H
    refine wp_s (i := .aload_n 0) (n := 1) (pc' := 27) (st' := [.ref 114]) rfl rfl ?_
    refine wq_cv (Dq := (D + 2)) (r' := mm_r126) (as0 := []) (rest := []) (ls' := [some (.ref 114), none]) (pc' := 30) rfl rfl rfl rfl ho_M rfl rfl rfl ?_
    refine jw_M_step (X := X) (D := D + 1) Z (dz_pm (dz_bi H) (fun q3 H => ?_))
    show mm_Wp X (D + 3) mm_r130 30 [some (.ref 114), some (dz_I a1), some (dz_I (q1 - 9))] [] (hz_0 q3) Q
    refine wp_s (i := .aload_n 0) (n := 1) (pc' := 31) (st' := [.ref 114]) rfl rfl ?_
    refine wq_gr (idx := 25) (a := 120) (pc' := 34) rfl rfl ho_M rfl rfl ?_
    refine wp_s (i := .bipush 10) (n := 2) (pc' := 36) (st' := [dz_I 10, .ref 120]) rfl rfl ?_
    refine wp_s (i := .iload_n 1) (n := 1) (pc' := 37) (st' := [dz_I a1, dz_I 10, .ref 120]) rfl rfl ?_
    refine wq_2 (i := .iadd) (z := 10 + a1) (pc' := 38) rfl rfl (op_add _ _) rfl ?_
    refine wp_s (i := .iload_n 2) (n := 1) (pc' := 39) (st' := [dz_I (q1 - 9), dz_I (10 + a1), .ref 120]) rfl rfl ?_
    obtain ⟨k4, H⟩ := dz_ck H
    refine wq_is (j' := dz_c (10 + a1)) (x := q1 - 9) (pc' := 40) rfl ha_M_11 rfl k4.1 k4.2 rfl (fun Z5 eZ5 => ?_)
    replace H := dz_le H Z5 eZ5
    clear eZ5
    refine wp_s (i := .aload_n 0) (n := 1) (pc' := 41) (st' := [.ref 114]) rfl rfl ?_
    refine wq_gr (idx := 25) (a := 120) (pc' := 44) rfl rfl ho_M rfl rfl ?_
    refine wp_s (i := .bipush 26) (n := 2) (pc' := 46) (st' := [dz_I 26, .ref 120]) rfl rfl ?_
    refine wp_s (i := .iload_n 1) (n := 1) (pc' := 47) (st' := [dz_I a1, dz_I 26, .ref 120]) rfl rfl ?_
    refine wq_2 (i := .iadd) (z := 26 + a1) (pc' := 48) rfl rfl (op_add _ _) rfl ?_
    refine wp_s (i := .bipush (-4)) (n := 2) (pc' := 50) (st' := [dz_I (-4), dz_I (26 + a1), .ref 120]) rfl rfl ?_
    obtain ⟨k6, H⟩ := dz_ck H
    refine wq_is (j' := dz_c (26 + a1)) (x := (-4)) (pc' := 51) rfl ha_M_11 rfl k6.1 k6.2 rfl (fun Z7 eZ7 => ?_)
    replace H := dz_le H Z7 eZ7
    clear eZ7
    refine wp_s (i := .iload_n 2) (n := 1) (pc' := 52) (st' := [dz_I (q1 - 9)]) rfl rfl ?_
    refine wq_3 (i := .i2l) (v' := dz_J (dz_c (q1 - 9))) (pc' := 53) rfl rfl (oq_i2l' rfl) rfl ?_
    refine wp_s (i := .lconst 1) (n := 1) (pc' := 54) (st' := [dz_J 1, dz_J (dz_c (q1 - 9))]) rfl rfl ?_
    refine wp_s (i := .ldc2_w 142) (n := 3) (pc' := 57) (st' := [dz_J 4, dz_J 1, dz_J (dz_c (q1 - 9))]) rfl rfl ?_
    refine wq_cs (Dq := (D + 2)) (r' := mm_r120) (as0 := [dz_J (dz_c (q1 - 9)), dz_J 1, dz_J 4]) (rest := []) (ls' := [some (dz_J (dz_c (q1 - 9))), none, some (dz_J 1), none, some (dz_J 4), none]) (pc' := 60) rfl rfl (by decide) rfl rfl rfl rfl rfl ?_
    refine jw_in (a' := dz_c (q1 - 9)) (b' := 1) (c' := 4) (dz_lc _) (by decide) (by decide) ?_
    show mm_Wp X (D + 3) mm_r130 60 [some (.ref 114), some (dz_I a1), some (dz_I (q1 - 9))] [dz_B (decide (1 ≤ dz_c (q1 - 9) ∧ dz_c (q1 - 9) ≤ 4))] (hz_0 Z7) Q
    refine dz_jn (P := fun (q12 : dz_Z) => mm_Wp X (D + 3) mm_r130 79 [some (.ref 114), some (dz_I a1), some (dz_I (q1 - 9))] [] (hz_0 q12) Q) (dz_bi H) (fun q12 H => ?_) (fun H => ?_)
    · skip
      refine wp_s (i := .iload_n 2) (n := 1) (pc' := 80) (st' := [dz_I (q1 - 9)]) rfl rfl ?_
      refine wp_s (i := .iconst 4) (n := 1) (pc' := 81) (st' := [dz_I 4, dz_I (q1 - 9)]) rfl rfl ?_
      refine wq_ic (p := dz_c (q1 - 9) ≠ 4) (tt := 172) (pc' := 84) rfl rfl (cq_ne rfl dk_4) rfl (fun c13 => ?_) (fun c13 => ?_)
      · replace H := dz_it c13 H
        refine wq_rv rfl rfl ?_
        replace H := dz_sm H
        exact H
      · replace H := dz_if c13 H
        refine wp_s (i := .aload_n 0) (n := 1) (pc' := 85) (st' := [.ref 114]) rfl rfl ?_
        refine wp_s (i := .iconst 0) (n := 1) (pc' := 86) (st' := [dz_I 0, .ref 114]) rfl rfl ?_
        refine wp_s (i := .bipush 7) (n := 2) (pc' := 88) (st' := [dz_I 7, dz_I 0, .ref 114]) rfl rfl ?_
        refine wq_cv (Dq := (D + 2)) (r' := mm_r127) (as0 := [dz_I 0, dz_I 7]) (rest := []) (ls' := [some (.ref 114), some (dz_I 0), some (dz_I 7)]) (pc' := 91) rfl rfl rfl rfl ho_M rfl rfl rfl ?_
        refine jw_M_looks (X := X) (D := D + 1) 0 7 q12 (dz_pm (dz_bi H) (fun q14 H => ?_))
        show mm_Wp X (D + 3) mm_r130 91 [some (.ref 114), some (dz_I a1), some (dz_I (q1 - 9))] [] (hz_0 q14) Q
        refine wp_s (i := .aload_n 0) (n := 1) (pc' := 92) (st' := [.ref 114]) rfl rfl ?_
        refine wq_gi (idx := 85) (pc' := 95) rfl rfl ho_M rfl rfl ?_
        refine dz_jn (P := fun (q18 : dz_Z) => mm_Wp X (D + 3) mm_r130 111 [some (.ref 114), some (dz_I a1), some (dz_I (q1 - 9))] [] (hz_0 q18) Q) (dz_bi H) (fun q18 H => ?_) (fun H => ?_)
        · skip
          refine wp_s (i := .aload_n 0) (n := 1) (pc' := 112) (st' := [.ref 114]) rfl rfl ?_
          refine wq_gr (idx := 25) (a := 120) (pc' := 115) rfl rfl ho_M rfl rfl ?_
          refine wp_s (i := .bipush 26) (n := 2) (pc' := 117) (st' := [dz_I 26, .ref 120]) rfl rfl ?_
          refine wp_s (i := .iload_n 1) (n := 1) (pc' := 118) (st' := [dz_I a1, dz_I 26, .ref 120]) rfl rfl ?_
          refine wq_2 (i := .iadd) (z := 26 + a1) (pc' := 119) rfl rfl (op_add _ _) rfl ?_
          refine wp_s (i := .aload_n 0) (n := 1) (pc' := 120) (st' := [.ref 114, dz_I (26 + a1), .ref 120]) rfl rfl ?_
          refine wq_gi (idx := 85) (pc' := 123) rfl rfl ho_M rfl rfl ?_
          refine dz_jn (P := fun (q20 : Int) => mm_Wp X (D + 3) mm_r130 134 [some (.ref 114), some (dz_I a1), some (dz_I (q1 - 9))] [dz_I q20, dz_I (26 + a1), .ref 120] (hz_0 q18) Q) (dz_bi H) (fun q20 H => ?_) (fun H => ?_)
          · skip
            refine wq_is (j' := dz_c (26 + a1)) (x := q20) (pc' := 135) rfl ha_M_11 rfl k6.1 k6.2 rfl (fun Z21 eZ21 => ?_)
            replace H := dz_le H Z21 eZ21
            clear eZ21
            refine wp_s (i := .aload_n 0) (n := 1) (pc' := 136) (st' := [.ref 114]) rfl rfl ?_
            refine wp_s (i := .aload_n 0) (n := 1) (pc' := 137) (st' := [.ref 114, .ref 114]) rfl rfl ?_
            refine wq_gi (idx := 104) (pc' := 140) rfl rfl ho_M rfl rfl ?_
            refine wp_s (i := .aload_n 0) (n := 1) (pc' := 141) (st' := [.ref 114, dz_I (Z21 114 29 0), .ref 114]) rfl rfl ?_
            refine wq_gi (idx := 137) (pc' := 144) rfl rfl ho_M rfl rfl ?_
            refine dz_jn (P := fun (q24 : Int) => mm_Wp X (D + 3) mm_r130 165 [some (.ref 114), some (dz_I a1), some (dz_I (q1 - 9))] [dz_I q24, .ref 114] (hz_0 Z21) Q) (dz_bi H) (fun q24 H => ?_) (fun H => ?_)
            · skip
              refine wq_pi (idx := 137) (x := q24) (pc' := 168) rfl rfl rfl ho_M rfl rfl rfl rfl (fun Z25 eZ25 => ?_)
              replace H := dz_le H Z25 eZ25
              clear eZ25
              refine wp_s (i := .aload_n 0) (n := 1) (pc' := 169) (st' := [.ref 114]) rfl rfl ?_
              refine wq_cv (Dq := (D + 2)) (r' := mm_r126) (as0 := []) (rest := []) (ls' := [some (.ref 114), none]) (pc' := 172) rfl rfl rfl rfl ho_M rfl rfl rfl ?_
              refine jw_M_step (X := X) (D := D + 1) Z25 (dz_pm (dz_bi H) (fun q26 H => ?_))
              show mm_Wp X (D + 3) mm_r130 172 [some (.ref 114), some (dz_I a1), some (dz_I (q1 - 9))] [] (hz_0 q26) Q
              refine wq_rv rfl rfl ?_
              replace H := dz_sm H
              exact H
            · skip
              refine wq_ic (p := dz_c (Z21 114 29 0) ≤ dz_c (Z21 114 19 0)) (tt := 161) (pc' := 147) rfl rfl (cq_le rfl rfl) rfl (fun c27 => ?_) (fun c27 => ?_)
              · replace H := dz_it c27 H
                refine wp_s (i := .aload_n 0) (n := 1) (pc' := 162) (st' := [.ref 114, .ref 114]) rfl rfl ?_
                refine wq_gi (idx := 137) (pc' := 165) rfl rfl ho_M rfl rfl ?_
                replace H := dz_sm H
                exact H
              · replace H := dz_if c27 H
                refine wp_s (i := .aload_n 0) (n := 1) (pc' := 148) (st' := [.ref 114, .ref 114]) rfl rfl ?_
                refine wq_gi (idx := 85) (pc' := 151) rfl rfl ho_M rfl rfl ?_
                refine wq_if (p := dz_c (Z21 114 24 0) ≠ 0) (tt := 161) (pc' := 154) rfl rfl (cz_ne rfl) rfl (fun c28 => ?_) (fun c28 => ?_)
                · replace H := dz_it c28 H
                  refine wp_s (i := .aload_n 0) (n := 1) (pc' := 162) (st' := [.ref 114, .ref 114]) rfl rfl ?_
                  refine wq_gi (idx := 137) (pc' := 165) rfl rfl ho_M rfl rfl ?_
                  replace H := dz_sm H
                  exact H
                · replace H := dz_if c28 H
                  refine wp_s (i := .aload_n 0) (n := 1) (pc' := 155) (st' := [.ref 114, .ref 114]) rfl rfl ?_
                  refine wq_gi (idx := 104) (pc' := 158) rfl rfl ho_M rfl rfl ?_
                  refine wp_s (i := .goto 7) (n := 3) (pc' := 165) (st' := [dz_I (Z21 114 29 0), .ref 114]) rfl rfl ?_
                  replace H := dz_sm H
                  exact H
          · skip
            refine wq_if (p := dz_c (q18 114 24 0) ≠ 0) (tt := 133) (pc' := 126) rfl rfl (cz_ne rfl) rfl (fun c29 => ?_) (fun c29 => ?_)
            · replace H := dz_it c29 H
              refine wp_s (i := .iconst 0) (n := 1) (pc' := 134) (st' := [dz_I 0, dz_I (26 + a1), .ref 120]) rfl rfl ?_
              replace H := dz_sm H
              exact H
            · replace H := dz_if c29 H
              refine wp_s (i := .aload_n 0) (n := 1) (pc' := 127) (st' := [.ref 114, dz_I (26 + a1), .ref 120]) rfl rfl ?_
              refine wq_gi (idx := 104) (pc' := 130) rfl rfl ho_M rfl rfl ?_
              refine wp_s (i := .goto 4) (n := 3) (pc' := 134) (st' := [dz_I (q18 114 29 0), dz_I (26 + a1), .ref 120]) rfl rfl ?_
              replace H := dz_sm H
              exact H
        · skip
          refine wq_if (p := dz_c (q14 114 24 0) ≠ 0) (tt := 111) (pc' := 98) rfl rfl (cz_ne rfl) rfl (fun c30 => ?_) (fun c30 => ?_)
          · replace H := dz_it c30 H
            replace H := dz_sm H
            exact H
          · replace H := dz_if c30 H
            refine wp_s (i := .aload_n 0) (n := 1) (pc' := 99) (st' := [.ref 114]) rfl rfl ?_
            refine wq_gi (idx := 104) (pc' := 102) rfl rfl ho_M rfl rfl ?_
            refine wp_s (i := .iload_n 1) (n := 1) (pc' := 103) (st' := [dz_I a1, dz_I (q14 114 29 0)]) rfl rfl ?_
            refine wq_ic (p := dz_c (q14 114 29 0) ≠ dz_c a1) (tt := 111) (pc' := 106) rfl rfl (cq_ne rfl rfl) rfl (fun c31 => ?_) (fun c31 => ?_)
            · replace H := dz_it c31 H
              replace H := dz_sm H
              exact H
            · replace H := dz_if c31 H
              refine wp_s (i := .aload_n 0) (n := 1) (pc' := 107) (st' := [.ref 114]) rfl rfl ?_
              refine wp_s (i := .iconst 3) (n := 1) (pc' := 108) (st' := [dz_I 3, .ref 114]) rfl rfl ?_
              refine wq_cv (Dq := (D + 2)) (r' := mm_r124) (as0 := [dz_I 3]) (rest := []) (ls' := [some (.ref 114), some (dz_I 3)]) (pc' := 111) rfl rfl rfl rfl ho_M rfl rfl rfl ?_
              refine jw_M_fails (X := X) (D := D + 2) 3 q14 (dz_pm (dz_bi H) (fun q32 H => ?_))
              show mm_Wp X (D + 3) mm_r130 111 [some (.ref 114), some (dz_I a1), some (dz_I (q1 - 9))] [] (hz_0 q32) Q
              replace H := dz_sm H
              exact H
    · skip
      refine wq_if (p := ¬(1 ≤ dz_c (q1 - 9) ∧ dz_c (q1 - 9) ≤ 4)) (tt := 79) (pc' := 63) rfl rfl (cd_eq) rfl (fun c33 => ?_) (fun c33 => ?_)
      · replace H := dz_it c33 H
        replace H := dz_sm H
        exact H
      · replace H := dz_if c33 H
        refine wp_s (i := .aload_n 0) (n := 1) (pc' := 64) (st' := [.ref 114]) rfl rfl ?_
        refine wq_gr (idx := 25) (a := 120) (pc' := 67) rfl rfl ho_M rfl rfl ?_
        refine wp_s (i := .bipush 18) (n := 2) (pc' := 69) (st' := [dz_I 18, .ref 120]) rfl rfl ?_
        refine wp_s (i := .iload_n 1) (n := 1) (pc' := 70) (st' := [dz_I a1, dz_I 18, .ref 120]) rfl rfl ?_
        refine wq_2 (i := .iadd) (z := 18 + a1) (pc' := 71) rfl rfl (op_add _ _) rfl ?_
        refine wp_s (i := .aload_n 0) (n := 1) (pc' := 72) (st' := [.ref 114, dz_I (18 + a1), .ref 120]) rfl rfl ?_
        refine wp_s (i := .iconst 1) (n := 1) (pc' := 73) (st' := [dz_I 1, .ref 114, dz_I (18 + a1), .ref 120]) rfl rfl ?_
        refine wp_s (i := .bipush 30) (n := 2) (pc' := 75) (st' := [dz_I 30, dz_I 1, .ref 114, dz_I (18 + a1), .ref 120]) rfl rfl ?_
        refine wq_cv (Dq := (D + 2)) (r' := mm_r128) (as0 := [dz_I 1, dz_I 30]) (rest := [dz_I (18 + a1), .ref 120]) (ls' := [some (.ref 114), some (dz_I 1), some (dz_I 30), none]) (pc' := 78) rfl rfl rfl rfl ho_M rfl rfl rfl ?_
        refine jw_M_number (X := X) (D := D + 0) 1 30 Z7 (dz_pm (dz_bi H) (fun q34 H => ?_))
        show mm_Wp X (D + 3) mm_r130 78 [some (.ref 114), some (dz_I a1), some (dz_I (q1 - 9))] [dz_I q34.1, dz_I (18 + a1), .ref 120] (hz_0 q34.2) Q
        obtain ⟨k35, H⟩ := dz_ck H
        refine wq_is (j' := dz_c (18 + a1)) (x := q34.1) (pc' := 79) rfl ha_M_11 rfl k35.1 k35.2 rfl (fun Z36 eZ36 => ?_)
        replace H := dz_le H Z36 eZ36
        clear eZ36
        replace H := dz_sm H
        exact H
  · replace H := dz_if c2 H
    refine wp_s (i := .aload_n 0) (n := 1) (pc' := 21) (st' := [.ref 114]) rfl rfl ?_
    refine wp_s (i := .iconst 2) (n := 1) (pc' := 22) (st' := [dz_I 2, .ref 114]) rfl rfl ?_
    refine wq_cv (Dq := (D + 2)) (r' := mm_r124) (as0 := [dz_I 2]) (rest := []) (ls' := [some (.ref 114), some (dz_I 2)]) (pc' := 25) rfl rfl rfl rfl ho_M rfl rfl rfl ?_
    refine jw_M_fails (X := X) (D := D + 2) 2 Z (dz_pm (dz_bi H) (fun q37 H => ?_))
    show mm_Wp X (D + 3) mm_r130 25 [some (.ref 114), some (dz_I a1), some (dz_I (q1 - 9))] [] (hz_0 q37) Q
    refine wq_rv rfl rfl ?_
    replace H := dz_sm H
    exact H
