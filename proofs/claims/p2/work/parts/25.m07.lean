-- 115
def jf_O_distance (a1 : Int) (Z : dz_Z) : Option (Int × dz_Z) := if hz_isP (Z 0 2 0).toNat then if hz_isS (Z 0 3 0).toNat then Option.bind (jf_C_perform ((Z 0 2 0).toNat) ((Z 0 3 0).toNat) a1 Z) fun q3 => if hz_isS (q3 0 3 0).toNat then Option.bind (jf_C_farFromTune ((q3 0 3 0).toNat) q3) fun q5 => some (q5, q3) else none else none else none
set_option maxRecDepth 20000 in
theorem jw_O_distance {X : Option (List Int32)} {D : Nat} {Q : Option Value → mm_H → Prop} (a1 : Int) (Z : dz_Z) (H : dz_p (jf_O_distance a1 Z) (fun q => Q (some (dz_I q.1)) (hz_0 q.2))) : mm_Wp X (D + 5) mm_r115 0 [some (.ref 0), some (dz_I a1)] [] (hz_0 Z) Q := by
  unfold jf_O_distance at H
  refine wp_s (i := .aload_n 0) (n := 1) (pc' := 1) (st' := [.ref 0]) rfl rfl ?_
  refine wq_gr (idx := 45) (a := 54) (pc' := 4) rfl rfl ho_O rfl rfl ?_
  refine wp_s (i := .aload_n 0) (n := 1) (pc' := 5) (st' := [.ref 0, .ref 54]) rfl rfl ?_
  obtain ⟨k1, H⟩ := dz_ck H
  refine wq_gd (idx := 24) (pc' := 8) rfl rfl ho_O rfl rfl ?_
  refine wp_s (i := .aload_n 0) (n := 1) (pc' := 9) (st' := [.ref 0, .ref ((Z 0 2 0).toNat), .ref 54]) rfl rfl ?_
  obtain ⟨k2, H⟩ := dz_ck H
  refine wq_gd (idx := 31) (pc' := 12) rfl rfl ho_O rfl rfl ?_
  refine wp_s (i := .iload_n 1) (n := 1) (pc' := 13) (st' := [dz_I a1, .ref ((Z 0 3 0).toNat), .ref ((Z 0 2 0).toNat), .ref 54]) rfl rfl ?_
  refine wq_cv (Dq := (D + 4)) (r' := mm_r5) (as0 := [.ref ((Z 0 2 0).toNat), .ref ((Z 0 3 0).toNat), dz_I a1]) (rest := []) (ls' := [some (.ref 54), some (.ref ((Z 0 2 0).toNat)), some (.ref ((Z 0 3 0).toNat)), some (dz_I a1), none, none]) (pc' := 16) rfl rfl rfl rfl ho_C rfl rfl rfl ?_
  refine jw_C_perform (X := X) (D := D + 0) ((Z 0 2 0).toNat) k1 ((Z 0 3 0).toNat) k2 a1 Z (dz_pm (dz_bi H) (fun q3 H => ?_))
  show mm_Wp X (D + 5) mm_r115 16 [some (.ref 0), some (dz_I a1)] [] (hz_0 q3) Q
  refine wp_s (i := .aload_n 0) (n := 1) (pc' := 17) (st' := [.ref 0]) rfl rfl ?_
  refine wq_gr (idx := 45) (a := 54) (pc' := 20) rfl rfl ho_O rfl rfl ?_
  refine wp_s (i := .aload_n 0) (n := 1) (pc' := 21) (st' := [.ref 0, .ref 54]) rfl rfl ?_
  obtain ⟨k4, H⟩ := dz_ck H
  refine wq_gd (idx := 31) (pc' := 24) rfl rfl ho_O rfl rfl ?_
  refine wq_cv (Dq := (D + 4)) (r' := mm_r6) (as0 := [.ref ((q3 0 3 0).toNat)]) (rest := []) (ls' := [some (.ref 54), some (.ref ((q3 0 3 0).toNat)), none, none, none, none]) (pc' := 27) rfl rfl rfl rfl ho_C rfl rfl rfl ?_
  refine jw_C_farFromTune (X := X) (D := D + 3) ((q3 0 3 0).toNat) k4 q3 (dz_pm (dz_bi H) (fun q5 H => ?_))
  show mm_Wp X (D + 5) mm_r115 27 [some (.ref 0), some (dz_I a1)] [dz_I q5] (hz_0 q3) Q
  refine wq_ri rfl rfl ?_
  replace H := dz_sm H
  exact H
-- 85
def jf_O_far (a1 : Int) (Z : dz_Z) : Option (Int × dz_Z) := Option.bind (jf_O_isShower a1 Z) fun q1 => if q1 = false then (some ((-1), Z)) else (Option.bind (jf_O_distance a1 Z) fun q3 => some (q3.1, q3.2))
set_option maxRecDepth 20000 in
theorem jw_O_far {X : Option (List Int32)} {D : Nat} {Q : Option Value → mm_H → Prop} (a1 : Int) (Z : dz_Z) (H : dz_p (jf_O_far a1 Z) (fun q => Q (some (dz_I q.1)) (hz_0 q.2))) : mm_Wp X (D + 6) mm_r85 0 [some (.ref 0), some (dz_I a1)] [] (hz_0 Z) Q := by
  unfold jf_O_far at H
  refine wp_s (i := .aload_n 0) (n := 1) (pc' := 1) (st' := [.ref 0]) rfl rfl ?_
  refine wp_s (i := .iload_n 1) (n := 1) (pc' := 2) (st' := [dz_I a1, .ref 0]) rfl rfl ?_
  refine wq_cv (Dq := (D + 5)) (r' := mm_r105) (as0 := [dz_I a1]) (rest := []) (ls' := [some (.ref 0), some (dz_I a1)]) (pc' := 5) rfl rfl rfl rfl ho_O rfl rfl rfl ?_
  refine jw_O_isShower (X := X) (D := D + 5) a1 Z (dz_pm (dz_bi H) (fun q1 H => ?_))
  show mm_Wp X (D + 6) mm_r85 5 [some (.ref 0), some (dz_I a1)] [dz_B q1] (hz_0 Z) Q
  refine wq_if (p := q1 = false) (tt := 16) (pc' := 8) rfl rfl (cb_eq) rfl (fun c2 => ?_) (fun c2 => ?_)
  · replace H := dz_it c2 H
    refine wp_s (i := .iconst (-1)) (n := 1) (pc' := 17) (st' := [dz_I (-1)]) rfl rfl ?_
    refine wq_ri rfl rfl ?_
    replace H := dz_sm H
    exact H
  · replace H := dz_if c2 H
    refine wp_s (i := .aload_n 0) (n := 1) (pc' := 9) (st' := [.ref 0]) rfl rfl ?_
    refine wp_s (i := .iload_n 1) (n := 1) (pc' := 10) (st' := [dz_I a1, .ref 0]) rfl rfl ?_
    refine wq_cv (Dq := (D + 5)) (r' := mm_r115) (as0 := [dz_I a1]) (rest := []) (ls' := [some (.ref 0), some (dz_I a1)]) (pc' := 13) rfl rfl rfl rfl ho_O rfl rfl rfl ?_
    refine jw_O_distance (X := X) (D := D + 0) a1 Z (dz_pm (dz_bi H) (fun q3 H => ?_))
    show mm_Wp X (D + 6) mm_r85 13 [some (.ref 0), some (dz_I a1)] [dz_I q3.1] (hz_0 q3.2) Q
    refine wp_s (i := .goto 4) (n := 3) (pc' := 17) (st' := [dz_I q3.1]) rfl rfl ?_
    refine wq_ri rfl rfl ?_
    replace H := dz_sm H
    exact H
-- 116
def jf_O_chooseForShower (a1 : Int) (a2 : Int) (Z : dz_Z) : Option (dz_Z) := if hz_isS (Z 0 3 0).toNat then if hz_isP (Z 0 2 0).toNat then Option.bind (jf_S_pegsAsNumber ((Z 0 3 0).toNat) (Z ((Z 0 2 0).toNat) 3 0) Z) fun q3 => Option.bind (jf_O_manySettings Z) fun q4 => Option.bind (jf_K_begin q3 (Z ((Z 0 2 0).toNat) 3 0) Z) fun q5 => dz_lp (fun (s6 : Int × dz_Z) => if dz_c q4 ≤ dz_c s6.1 then (if hz_isS (s6.2 0 3 0).toNat then if hz_isP (s6.2 0 2 0).toNat then Option.bind (jf_S_setPegs ((s6.2 0 3 0).toNat) (s6.2 ((s6.2 0 2 0).toNat) 3 0) q3 s6.2) fun q10 => some (Sum.inr q10) else none else none) else (if hz_isS (s6.2 0 3 0).toNat then if hz_isP (s6.2 0 2 0).toNat then Option.bind (jf_S_setPegs ((s6.2 0 3 0).toNat) (s6.2 ((s6.2 0 2 0).toNat) 3 0) s6.1 s6.2) fun q13 => if hz_isP (q13 0 2 0).toNat then if hz_isS (q13 0 3 0).toNat then Option.bind (jf_C_perform ((q13 0 2 0).toNat) ((q13 0 3 0).toNat) a1 q13) fun q16 => if dz_c a2 = 0 then (if hz_isS (q16 0 3 0).toNat then Option.bind (jf_C_farFromTune ((q16 0 3 0).toNat) q16) fun q19 => Option.bind (jf_K_offer s6.1 q19 q16) fun q20 => some (Sum.inl (s6.1 + 1, q20)) else none) else (if hz_isP (q16 0 2 0).toNat then Option.bind (jf_C_wokenSleepers ((q16 0 2 0).toNat) q16) fun q22 => if dz_c q22 ≠ 0 then (some (Sum.inl (s6.1 + 1, q16))) else (if hz_isS (q16 0 3 0).toNat then Option.bind (jf_C_farFromTune ((q16 0 3 0).toNat) q16) fun q25 => Option.bind (jf_K_offer s6.1 q25 q16) fun q26 => some (Sum.inl (s6.1 + 1, q26)) else none) else none) else none else none else none else none)) 5000 (0, q5) else none else none
set_option maxRecDepth 20000 in
theorem jw_O_chooseForShower {X : Option (List Int32)} {D : Nat} {Q : Option Value → mm_H → Prop} (a1 : Int) (a2 : Int) (Z : dz_Z) (H : dz_p (jf_O_chooseForShower a1 a2 Z) (fun q => Q (none) (hz_0 q))) : mm_Wp X (D + 5) mm_r116 0 [some (.ref 0), some (dz_I a1), some (dz_I a2), none, none, none] [] (hz_0 Z) Q := by
  unfold jf_O_chooseForShower at H
  refine wp_s (i := .aload_n 0) (n := 1) (pc' := 1) (st' := [.ref 0]) rfl rfl ?_
  obtain ⟨k1, H⟩ := dz_ck H
  refine wq_gd (idx := 31) (pc' := 4) rfl rfl ho_O rfl rfl ?_
  refine wp_s (i := .aload_n 0) (n := 1) (pc' := 5) (st' := [.ref 0, .ref ((Z 0 3 0).toNat)]) rfl rfl ?_
  obtain ⟨k2, H⟩ := dz_ck H
  refine wq_gd (idx := 24) (pc' := 8) rfl rfl ho_O rfl rfl ?_
  refine wq_gi (idx := 111) (pc' := 11) rfl rfl (ho_P k2) rfl rfl ?_
  refine wq_cv (Dq := (D + 4)) (r' := mm_r55) (as0 := [dz_I (Z ((Z 0 2 0).toNat) 3 0)]) (rest := []) (ls' := [some (.ref ((Z 0 3 0).toNat)), some (dz_I (Z ((Z 0 2 0).toNat) 3 0)), none, none]) (pc' := 14) rfl rfl rfl rfl (ho_S k1) rfl rfl rfl ?_
  refine jw_S_pegsAsNumber (X := X) (D := D + 4) ((Z 0 3 0).toNat) k1 (Z ((Z 0 2 0).toNat) 3 0) Z (dz_pm (dz_bi H) (fun q3 H => ?_))
  show mm_Wp X (D + 5) mm_r116 14 [some (.ref 0), some (dz_I a1), some (dz_I a2), none, none, none] [dz_I q3] (hz_0 Z) Q
  refine wq_st (k := 3) (i := .istore_n 3) (n := 1) (ls' := [some (.ref 0), some (dz_I a1), some (dz_I a2), some (dz_I q3), none, none]) (pc' := 15) rfl rfl rfl rfl rfl ?_
  refine wp_s (i := .aload_n 0) (n := 1) (pc' := 16) (st' := [.ref 0]) rfl rfl ?_
  refine wq_cv (Dq := (D + 4)) (r' := mm_r114) (as0 := []) (rest := []) (ls' := [some (.ref 0), none, none]) (pc' := 19) rfl rfl rfl rfl ho_O rfl rfl rfl ?_
  refine jw_O_manySettings (X := X) (D := D + 4) Z (dz_pm (dz_bi H) (fun q4 H => ?_))
  show mm_Wp X (D + 5) mm_r116 19 [some (.ref 0), some (dz_I a1), some (dz_I a2), some (dz_I q3), none, none] [dz_I q4] (hz_0 Z) Q
  refine wq_st (k := 4) (i := .istore 4) (n := 2) (ls' := [some (.ref 0), some (dz_I a1), some (dz_I a2), some (dz_I q3), some (dz_I q4), none]) (pc' := 21) rfl rfl rfl rfl rfl ?_
  refine wp_s (i := .aload_n 0) (n := 1) (pc' := 22) (st' := [.ref 0]) rfl rfl ?_
  refine wq_gr (idx := 52) (a := 65) (pc' := 25) rfl rfl ho_O rfl rfl ?_
  refine wp_s (i := .iload_n 3) (n := 1) (pc' := 26) (st' := [dz_I q3, .ref 65]) rfl rfl ?_
  refine wp_s (i := .aload_n 0) (n := 1) (pc' := 27) (st' := [.ref 0, dz_I q3, .ref 65]) rfl rfl ?_
  refine wq_gd (idx := 24) (pc' := 30) rfl rfl ho_O rfl rfl ?_
  refine wq_gi (idx := 111) (pc' := 33) rfl rfl (ho_P k2) rfl rfl ?_
  refine wq_cv (Dq := (D + 4)) (r' := mm_r1) (as0 := [dz_I q3, dz_I (Z ((Z 0 2 0).toNat) 3 0)]) (rest := []) (ls' := [some (.ref 65), some (dz_I q3), some (dz_I (Z ((Z 0 2 0).toNat) 3 0))]) (pc' := 36) rfl rfl rfl rfl ho_K rfl rfl rfl ?_
  refine jw_K_begin (X := X) (D := D + 4) q3 (Z ((Z 0 2 0).toNat) 3 0) Z (dz_pm (dz_bi H) (fun q5 H => ?_))
  show mm_Wp X (D + 5) mm_r116 36 [some (.ref 0), some (dz_I a1), some (dz_I a2), some (dz_I q3), some (dz_I q4), none] [] (hz_0 q5) Q
  refine wp_s (i := .iconst 0) (n := 1) (pc' := 37) (st' := [dz_I 0]) rfl rfl ?_
  refine wq_st (k := 5) (i := .istore 5) (n := 2) (ls' := [some (.ref 0), some (dz_I a1), some (dz_I a2), some (dz_I q3), some (dz_I q4), some (dz_I 0)]) (pc' := 39) rfl rfl rfl rfl rfl ?_
  refine dz_lpi (P := fun (s6 : Int × dz_Z) => mm_Wp X (D + 5) mm_r116 39 [some (.ref 0), some (dz_I a1), some (dz_I a2), some (dz_I q3), some (dz_I q4), some (dz_I s6.1)] [] (hz_0 s6.2) Q) (fun s6 H => ?_) 5000 (0, q5) H
  refine wp_s (i := .iload 5) (n := 2) (pc' := 41) (st' := [dz_I s6.1]) rfl rfl ?_
  refine wp_s (i := .iload 4) (n := 2) (pc' := 43) (st' := [dz_I q4, dz_I s6.1]) rfl rfl ?_
  refine wq_ic (p := dz_c q4 ≤ dz_c s6.1) (tt := 122) (pc' := 46) rfl rfl (cq_ge rfl rfl) rfl (fun c7 => ?_) (fun c7 => ?_)
  · replace H := dz_it c7 H
    refine wp_s (i := .aload_n 0) (n := 1) (pc' := 123) (st' := [.ref 0]) rfl rfl ?_
    obtain ⟨k8, H⟩ := dz_ck H
    refine wq_gd (idx := 31) (pc' := 126) rfl rfl ho_O rfl rfl ?_
    refine wp_s (i := .aload_n 0) (n := 1) (pc' := 127) (st' := [.ref 0, .ref ((s6.2 0 3 0).toNat)]) rfl rfl ?_
    obtain ⟨k9, H⟩ := dz_ck H
    refine wq_gd (idx := 24) (pc' := 130) rfl rfl ho_O rfl rfl ?_
    refine wq_gi (idx := 111) (pc' := 133) rfl rfl (ho_P k9) rfl rfl ?_
    refine wp_s (i := .iload_n 3) (n := 1) (pc' := 134) (st' := [dz_I q3, dz_I (s6.2 ((s6.2 0 2 0).toNat) 3 0), .ref ((s6.2 0 3 0).toNat)]) rfl rfl ?_
    refine wq_cv (Dq := (D + 4)) (r' := mm_r56) (as0 := [dz_I (s6.2 ((s6.2 0 2 0).toNat) 3 0), dz_I q3]) (rest := []) (ls' := [some (.ref ((s6.2 0 3 0).toNat)), some (dz_I (s6.2 ((s6.2 0 2 0).toNat) 3 0)), some (dz_I q3), none, none]) (pc' := 137) rfl rfl rfl rfl (ho_S k8) rfl rfl rfl ?_
    refine jw_S_setPegs (X := X) (D := D + 4) ((s6.2 0 3 0).toNat) k8 (s6.2 ((s6.2 0 2 0).toNat) 3 0) q3 s6.2 (dz_pm (dz_bi H) (fun q10 H => ?_))
    show mm_Wp X (D + 5) mm_r116 137 [some (.ref 0), some (dz_I a1), some (dz_I a2), some (dz_I q3), some (dz_I q4), some (dz_I s6.1)] [] (hz_0 q10) Q
    refine wq_rv rfl rfl ?_
    replace H := dz_out H
    replace H := dz_sm H
    exact H
  · replace H := dz_if c7 H
    refine wp_s (i := .aload_n 0) (n := 1) (pc' := 47) (st' := [.ref 0]) rfl rfl ?_
    obtain ⟨k11, H⟩ := dz_ck H
    refine wq_gd (idx := 31) (pc' := 50) rfl rfl ho_O rfl rfl ?_
    refine wp_s (i := .aload_n 0) (n := 1) (pc' := 51) (st' := [.ref 0, .ref ((s6.2 0 3 0).toNat)]) rfl rfl ?_
    obtain ⟨k12, H⟩ := dz_ck H
    refine wq_gd (idx := 24) (pc' := 54) rfl rfl ho_O rfl rfl ?_
    refine wq_gi (idx := 111) (pc' := 57) rfl rfl (ho_P k12) rfl rfl ?_
    refine wp_s (i := .iload 5) (n := 2) (pc' := 59) (st' := [dz_I s6.1, dz_I (s6.2 ((s6.2 0 2 0).toNat) 3 0), .ref ((s6.2 0 3 0).toNat)]) rfl rfl ?_
    refine wq_cv (Dq := (D + 4)) (r' := mm_r56) (as0 := [dz_I (s6.2 ((s6.2 0 2 0).toNat) 3 0), dz_I s6.1]) (rest := []) (ls' := [some (.ref ((s6.2 0 3 0).toNat)), some (dz_I (s6.2 ((s6.2 0 2 0).toNat) 3 0)), some (dz_I s6.1), none, none]) (pc' := 62) rfl rfl rfl rfl (ho_S k11) rfl rfl rfl ?_
    refine jw_S_setPegs (X := X) (D := D + 4) ((s6.2 0 3 0).toNat) k11 (s6.2 ((s6.2 0 2 0).toNat) 3 0) s6.1 s6.2 (dz_pm (dz_bi H) (fun q13 H => ?_))
    show mm_Wp X (D + 5) mm_r116 62 [some (.ref 0), some (dz_I a1), some (dz_I a2), some (dz_I q3), some (dz_I q4), some (dz_I s6.1)] [] (hz_0 q13) Q
    refine wp_s (i := .aload_n 0) (n := 1) (pc' := 63) (st' := [.ref 0]) rfl rfl ?_
    refine wq_gr (idx := 45) (a := 54) (pc' := 66) rfl rfl ho_O rfl rfl ?_
    refine wp_s (i := .aload_n 0) (n := 1) (pc' := 67) (st' := [.ref 0, .ref 54]) rfl rfl ?_
    obtain ⟨k14, H⟩ := dz_ck H
    refine wq_gd (idx := 24) (pc' := 70) rfl rfl ho_O rfl rfl ?_
    refine wp_s (i := .aload_n 0) (n := 1) (pc' := 71) (st' := [.ref 0, .ref ((q13 0 2 0).toNat), .ref 54]) rfl rfl ?_
    obtain ⟨k15, H⟩ := dz_ck H
    refine wq_gd (idx := 31) (pc' := 74) rfl rfl ho_O rfl rfl ?_
    refine wp_s (i := .iload_n 1) (n := 1) (pc' := 75) (st' := [dz_I a1, .ref ((q13 0 3 0).toNat), .ref ((q13 0 2 0).toNat), .ref 54]) rfl rfl ?_
    refine wq_cv (Dq := (D + 4)) (r' := mm_r5) (as0 := [.ref ((q13 0 2 0).toNat), .ref ((q13 0 3 0).toNat), dz_I a1]) (rest := []) (ls' := [some (.ref 54), some (.ref ((q13 0 2 0).toNat)), some (.ref ((q13 0 3 0).toNat)), some (dz_I a1), none, none]) (pc' := 78) rfl rfl rfl rfl ho_C rfl rfl rfl ?_
    refine jw_C_perform (X := X) (D := D + 0) ((q13 0 2 0).toNat) k14 ((q13 0 3 0).toNat) k15 a1 q13 (dz_pm (dz_bi H) (fun q16 H => ?_))
    show mm_Wp X (D + 5) mm_r116 78 [some (.ref 0), some (dz_I a1), some (dz_I a2), some (dz_I q3), some (dz_I q4), some (dz_I s6.1)] [] (hz_0 q16) Q
    refine wp_s (i := .iload_n 2) (n := 1) (pc' := 79) (st' := [dz_I a2]) rfl rfl ?_
    refine wq_if (p := dz_c a2 = 0) (tt := 96) (pc' := 82) rfl rfl (cz_eq rfl) rfl (fun c17 => ?_) (fun c17 => ?_)
    · replace H := dz_it c17 H
      refine wp_s (i := .aload_n 0) (n := 1) (pc' := 97) (st' := [.ref 0]) rfl rfl ?_
      refine wq_gr (idx := 52) (a := 65) (pc' := 100) rfl rfl ho_O rfl rfl ?_
      refine wp_s (i := .iload 5) (n := 2) (pc' := 102) (st' := [dz_I s6.1, .ref 65]) rfl rfl ?_
      refine wp_s (i := .aload_n 0) (n := 1) (pc' := 103) (st' := [.ref 0, dz_I s6.1, .ref 65]) rfl rfl ?_
      refine wq_gr (idx := 45) (a := 54) (pc' := 106) rfl rfl ho_O rfl rfl ?_
      refine wp_s (i := .aload_n 0) (n := 1) (pc' := 107) (st' := [.ref 0, .ref 54, dz_I s6.1, .ref 65]) rfl rfl ?_
      obtain ⟨k18, H⟩ := dz_ck H
      refine wq_gd (idx := 31) (pc' := 110) rfl rfl ho_O rfl rfl ?_
      refine wq_cv (Dq := (D + 4)) (r' := mm_r6) (as0 := [.ref ((q16 0 3 0).toNat)]) (rest := [dz_I s6.1, .ref 65]) (ls' := [some (.ref 54), some (.ref ((q16 0 3 0).toNat)), none, none, none, none]) (pc' := 113) rfl rfl rfl rfl ho_C rfl rfl rfl ?_
      refine jw_C_farFromTune (X := X) (D := D + 3) ((q16 0 3 0).toNat) k18 q16 (dz_pm (dz_bi H) (fun q19 H => ?_))
      show mm_Wp X (D + 5) mm_r116 113 [some (.ref 0), some (dz_I a1), some (dz_I a2), some (dz_I q3), some (dz_I q4), some (dz_I s6.1)] [dz_I q19, dz_I s6.1, .ref 65] (hz_0 q16) Q
      refine wq_cv (Dq := (D + 4)) (r' := mm_r2) (as0 := [dz_I s6.1, dz_I q19]) (rest := []) (ls' := [some (.ref 65), some (dz_I s6.1), some (dz_I q19), none, none]) (pc' := 116) rfl rfl rfl rfl ho_K rfl rfl rfl ?_
      refine jw_K_offer (X := X) (D := D + 3) s6.1 q19 q16 (dz_pm (dz_bi H) (fun q20 H => ?_))
      show mm_Wp X (D + 5) mm_r116 116 [some (.ref 0), some (dz_I a1), some (dz_I a2), some (dz_I q3), some (dz_I q4), some (dz_I s6.1)] [] (hz_0 q20) Q
      refine wq_inc (k := 5) (d := 1) (x := s6.1) (ls' := [some (.ref 0), some (dz_I a1), some (dz_I a2), some (dz_I q3), some (dz_I q4), some (dz_I (s6.1 + 1))]) (pc' := 119) rfl rfl rfl rfl ?_
      refine wp_s (i := .goto (-80)) (n := 3) (pc' := 39) (st' := []) rfl rfl ?_
      replace H := dz_back H
      exact H
    · replace H := dz_if c17 H
      refine wp_s (i := .aload_n 0) (n := 1) (pc' := 83) (st' := [.ref 0]) rfl rfl ?_
      refine wq_gr (idx := 45) (a := 54) (pc' := 86) rfl rfl ho_O rfl rfl ?_
      refine wp_s (i := .aload_n 0) (n := 1) (pc' := 87) (st' := [.ref 0, .ref 54]) rfl rfl ?_
      obtain ⟨k21, H⟩ := dz_ck H
      refine wq_gd (idx := 24) (pc' := 90) rfl rfl ho_O rfl rfl ?_
      refine wq_cv (Dq := (D + 4)) (r' := mm_r8) (as0 := [.ref ((q16 0 2 0).toNat)]) (rest := []) (ls' := [some (.ref 54), some (.ref ((q16 0 2 0).toNat)), none, none, none]) (pc' := 93) rfl rfl rfl rfl ho_C rfl rfl rfl ?_
      refine jw_C_wokenSleepers (X := X) (D := D + 4) ((q16 0 2 0).toNat) k21 q16 (dz_pm (dz_bi H) (fun q22 H => ?_))
      show mm_Wp X (D + 5) mm_r116 93 [some (.ref 0), some (dz_I a1), some (dz_I a2), some (dz_I q3), some (dz_I q4), some (dz_I s6.1)] [dz_I q22] (hz_0 q16) Q
      refine wq_if (p := dz_c q22 ≠ 0) (tt := 116) (pc' := 96) rfl rfl (cz_ne rfl) rfl (fun c23 => ?_) (fun c23 => ?_)
      · replace H := dz_it c23 H
        refine wq_inc (k := 5) (d := 1) (x := s6.1) (ls' := [some (.ref 0), some (dz_I a1), some (dz_I a2), some (dz_I q3), some (dz_I q4), some (dz_I (s6.1 + 1))]) (pc' := 119) rfl rfl rfl rfl ?_
        refine wp_s (i := .goto (-80)) (n := 3) (pc' := 39) (st' := []) rfl rfl ?_
        replace H := dz_back H
        exact H
      · replace H := dz_if c23 H
        refine wp_s (i := .aload_n 0) (n := 1) (pc' := 97) (st' := [.ref 0]) rfl rfl ?_
        refine wq_gr (idx := 52) (a := 65) (pc' := 100) rfl rfl ho_O rfl rfl ?_
        refine wp_s (i := .iload 5) (n := 2) (pc' := 102) (st' := [dz_I s6.1, .ref 65]) rfl rfl ?_
        refine wp_s (i := .aload_n 0) (n := 1) (pc' := 103) (st' := [.ref 0, dz_I s6.1, .ref 65]) rfl rfl ?_
        refine wq_gr (idx := 45) (a := 54) (pc' := 106) rfl rfl ho_O rfl rfl ?_
        refine wp_s (i := .aload_n 0) (n := 1) (pc' := 107) (st' := [.ref 0, .ref 54, dz_I s6.1, .ref 65]) rfl rfl ?_
        obtain ⟨k24, H⟩ := dz_ck H
        refine wq_gd (idx := 31) (pc' := 110) rfl rfl ho_O rfl rfl ?_
        refine wq_cv (Dq := (D + 4)) (r' := mm_r6) (as0 := [.ref ((q16 0 3 0).toNat)]) (rest := [dz_I s6.1, .ref 65]) (ls' := [some (.ref 54), some (.ref ((q16 0 3 0).toNat)), none, none, none, none]) (pc' := 113) rfl rfl rfl rfl ho_C rfl rfl rfl ?_
        refine jw_C_farFromTune (X := X) (D := D + 3) ((q16 0 3 0).toNat) k24 q16 (dz_pm (dz_bi H) (fun q25 H => ?_))
        show mm_Wp X (D + 5) mm_r116 113 [some (.ref 0), some (dz_I a1), some (dz_I a2), some (dz_I q3), some (dz_I q4), some (dz_I s6.1)] [dz_I q25, dz_I s6.1, .ref 65] (hz_0 q16) Q
        refine wq_cv (Dq := (D + 4)) (r' := mm_r2) (as0 := [dz_I s6.1, dz_I q25]) (rest := []) (ls' := [some (.ref 65), some (dz_I s6.1), some (dz_I q25), none, none]) (pc' := 116) rfl rfl rfl rfl ho_K rfl rfl rfl ?_
        refine jw_K_offer (X := X) (D := D + 3) s6.1 q25 q16 (dz_pm (dz_bi H) (fun q26 H => ?_))
        show mm_Wp X (D + 5) mm_r116 116 [some (.ref 0), some (dz_I a1), some (dz_I a2), some (dz_I q3), some (dz_I q4), some (dz_I s6.1)] [] (hz_0 q26) Q
        refine wq_inc (k := 5) (d := 1) (x := s6.1) (ls' := [some (.ref 0), some (dz_I a1), some (dz_I a2), some (dz_I q3), some (dz_I q4), some (dz_I (s6.1 + 1))]) (pc' := 119) rfl rfl rfl rfl ?_
        refine wp_s (i := .goto (-80)) (n := 3) (pc' := 39) (st' := []) rfl rfl ?_
        replace H := dz_back H
        exact H
-- 86
def jf_O_best (a1 : Int) (a2 : Int) (Z : dz_Z) : Option (Int × dz_Z) := Option.bind (jf_O_isShower a1 Z) fun q1 => if q1 = false then (some ((-1), Z)) else (if dz_c a2 < 0 then (some ((-1), Z)) else (if dz_c a2 ≤ 2 then (Option.bind (jf_O_chooseForShower a1 0 Z) fun q5 => if dz_c a2 = 0 then (some (q5 65 0 0, q5)) else (if dz_c a2 = 1 then (some (q5 65 1 0, q5)) else (some (q5 65 2 0, q5)))) else (some ((-1), Z))))
set_option maxRecDepth 20000 in
theorem jw_O_best {X : Option (List Int32)} {D : Nat} {Q : Option Value → mm_H → Prop} (a1 : Int) (a2 : Int) (Z : dz_Z) (H : dz_p (jf_O_best a1 a2 Z) (fun q => Q (some (dz_I q.1)) (hz_0 q.2))) : mm_Wp X (D + 6) mm_r86 0 [some (.ref 0), some (dz_I a1), some (dz_I a2)] [] (hz_0 Z) Q := by
  unfold jf_O_best at H
  refine wp_s (i := .aload_n 0) (n := 1) (pc' := 1) (st' := [.ref 0]) rfl rfl ?_
  refine wp_s (i := .iload_n 1) (n := 1) (pc' := 2) (st' := [dz_I a1, .ref 0]) rfl rfl ?_
  refine wq_cv (Dq := (D + 5)) (r' := mm_r105) (as0 := [dz_I a1]) (rest := []) (ls' := [some (.ref 0), some (dz_I a1)]) (pc' := 5) rfl rfl rfl rfl ho_O rfl rfl rfl ?_
  refine jw_O_isShower (X := X) (D := D + 5) a1 Z (dz_pm (dz_bi H) (fun q1 H => ?_))
  show mm_Wp X (D + 6) mm_r86 5 [some (.ref 0), some (dz_I a1), some (dz_I a2)] [dz_B q1] (hz_0 Z) Q
  refine wq_if (p := q1 = false) (tt := 17) (pc' := 8) rfl rfl (cb_eq) rfl (fun c2 => ?_) (fun c2 => ?_)
  · replace H := dz_it c2 H
    refine wp_s (i := .iconst (-1)) (n := 1) (pc' := 18) (st' := [dz_I (-1)]) rfl rfl ?_
    refine wq_ri rfl rfl ?_
    replace H := dz_sm H
    exact H
  · replace H := dz_if c2 H
    refine wp_s (i := .iload_n 2) (n := 1) (pc' := 9) (st' := [dz_I a2]) rfl rfl ?_
    refine wq_if (p := dz_c a2 < 0) (tt := 17) (pc' := 12) rfl rfl (cz_lt rfl) rfl (fun c3 => ?_) (fun c3 => ?_)
    · replace H := dz_it c3 H
      refine wp_s (i := .iconst (-1)) (n := 1) (pc' := 18) (st' := [dz_I (-1)]) rfl rfl ?_
      refine wq_ri rfl rfl ?_
      replace H := dz_sm H
      exact H
    · replace H := dz_if c3 H
      refine wp_s (i := .iload_n 2) (n := 1) (pc' := 13) (st' := [dz_I a2]) rfl rfl ?_
      refine wp_s (i := .iconst 2) (n := 1) (pc' := 14) (st' := [dz_I 2, dz_I a2]) rfl rfl ?_
      refine wq_ic (p := dz_c a2 ≤ 2) (tt := 19) (pc' := 17) rfl rfl (cq_le rfl dk_2) rfl (fun c4 => ?_) (fun c4 => ?_)
      · replace H := dz_it c4 H
        refine wp_s (i := .aload_n 0) (n := 1) (pc' := 20) (st' := [.ref 0]) rfl rfl ?_
        refine wp_s (i := .iload_n 1) (n := 1) (pc' := 21) (st' := [dz_I a1, .ref 0]) rfl rfl ?_
        refine wp_s (i := .iconst 0) (n := 1) (pc' := 22) (st' := [dz_I 0, dz_I a1, .ref 0]) rfl rfl ?_
        refine wq_cv (Dq := (D + 5)) (r' := mm_r116) (as0 := [dz_I a1, dz_I 0]) (rest := []) (ls' := [some (.ref 0), some (dz_I a1), some (dz_I 0), none, none, none]) (pc' := 25) rfl rfl rfl rfl ho_O rfl rfl rfl ?_
        refine jw_O_chooseForShower (X := X) (D := D + 0) a1 0 Z (dz_pm (dz_bi H) (fun q5 H => ?_))
        show mm_Wp X (D + 6) mm_r86 25 [some (.ref 0), some (dz_I a1), some (dz_I a2)] [] (hz_0 q5) Q
        refine wp_s (i := .iload_n 2) (n := 1) (pc' := 26) (st' := [dz_I a2]) rfl rfl ?_
        by_cases c6 : dz_c a2 = 0
        · replace H := dz_it c6 H
          refine wq_lk (x' := dz_c a2) (tt := 52) rfl (by decide) rfl (by rw [c6]; rfl) ?_
          refine wp_s (i := .aload_n 0) (n := 1) (pc' := 53) (st' := [.ref 0]) rfl rfl ?_
          refine wq_gr (idx := 52) (a := 65) (pc' := 56) rfl rfl ho_O rfl rfl ?_
          refine wq_gi (idx := 261) (pc' := 59) rfl rfl ho_K rfl rfl ?_
          refine wq_ri rfl rfl ?_
          replace H := dz_sm H
          exact H
        · replace H := dz_if c6 H
          by_cases c7 : dz_c a2 = 1
          · replace H := dz_it c7 H
            refine wq_lk (x' := dz_c a2) (tt := 60) rfl (by decide) rfl (by rw [c7]; rfl) ?_
            refine wp_s (i := .aload_n 0) (n := 1) (pc' := 61) (st' := [.ref 0]) rfl rfl ?_
            refine wq_gr (idx := 52) (a := 65) (pc' := 64) rfl rfl ho_O rfl rfl ?_
            refine wq_gi (idx := 264) (pc' := 67) rfl rfl ho_K rfl rfl ?_
            refine wq_ri rfl rfl ?_
            replace H := dz_sm H
            exact H
          · replace H := dz_if c7 H
            refine wq_lk (x' := dz_c a2) (tt := 68) rfl (by decide) rfl (by show mm_tg _ (Op.lookupswitch.offset [(0, 26), (1, 34)] 42 _) = _; rw [Op.lookupswitch.offset_cons, if_neg (by omega), Op.lookupswitch.offset_cons, if_neg (by omega)]; rfl) ?_
            refine wp_s (i := .aload_n 0) (n := 1) (pc' := 69) (st' := [.ref 0]) rfl rfl ?_
            refine wq_gr (idx := 52) (a := 65) (pc' := 72) rfl rfl ho_O rfl rfl ?_
            refine wq_gi (idx := 267) (pc' := 75) rfl rfl ho_K rfl rfl ?_
            refine wq_ri rfl rfl ?_
            replace H := dz_sm H
            exact H
      · replace H := dz_if c4 H
        refine wp_s (i := .iconst (-1)) (n := 1) (pc' := 18) (st' := [dz_I (-1)]) rfl rfl ?_
        refine wq_ri rfl rfl ?_
        replace H := dz_sm H
        exact H
-- 87
def jf_O_fewest (a1 : Int) (a2 : Int) (Z : dz_Z) : Option (Int × dz_Z) := Option.bind (jf_O_isShower a1 Z) fun q1 => if q1 = false then (some ((-1), Z)) else (if dz_c a2 < 0 then (some ((-1), Z)) else (if dz_c a2 ≤ 1 then (Option.bind (jf_O_chooseForShower a1 0 Z) fun q5 => if dz_c a2 ≠ 0 then (some (q5 65 5 0, q5)) else (some (q5 65 4 0, q5))) else (some ((-1), Z))))
set_option maxRecDepth 20000 in
theorem jw_O_fewest {X : Option (List Int32)} {D : Nat} {Q : Option Value → mm_H → Prop} (a1 : Int) (a2 : Int) (Z : dz_Z) (H : dz_p (jf_O_fewest a1 a2 Z) (fun q => Q (some (dz_I q.1)) (hz_0 q.2))) : mm_Wp X (D + 6) mm_r87 0 [some (.ref 0), some (dz_I a1), some (dz_I a2)] [] (hz_0 Z) Q := by
  unfold jf_O_fewest at H
  refine wp_s (i := .aload_n 0) (n := 1) (pc' := 1) (st' := [.ref 0]) rfl rfl ?_
  refine wp_s (i := .iload_n 1) (n := 1) (pc' := 2) (st' := [dz_I a1, .ref 0]) rfl rfl ?_
  refine wq_cv (Dq := (D + 5)) (r' := mm_r105) (as0 := [dz_I a1]) (rest := []) (ls' := [some (.ref 0), some (dz_I a1)]) (pc' := 5) rfl rfl rfl rfl ho_O rfl rfl rfl ?_
  refine jw_O_isShower (X := X) (D := D + 5) a1 Z (dz_pm (dz_bi H) (fun q1 H => ?_))
  show mm_Wp X (D + 6) mm_r87 5 [some (.ref 0), some (dz_I a1), some (dz_I a2)] [dz_B q1] (hz_0 Z) Q
  refine wq_if (p := q1 = false) (tt := 17) (pc' := 8) rfl rfl (cb_eq) rfl (fun c2 => ?_) (fun c2 => ?_)
  · replace H := dz_it c2 H
    refine wp_s (i := .iconst (-1)) (n := 1) (pc' := 18) (st' := [dz_I (-1)]) rfl rfl ?_
    refine wq_ri rfl rfl ?_
    replace H := dz_sm H
    exact H
  · replace H := dz_if c2 H
    refine wp_s (i := .iload_n 2) (n := 1) (pc' := 9) (st' := [dz_I a2]) rfl rfl ?_
    refine wq_if (p := dz_c a2 < 0) (tt := 17) (pc' := 12) rfl rfl (cz_lt rfl) rfl (fun c3 => ?_) (fun c3 => ?_)
    · replace H := dz_it c3 H
      refine wp_s (i := .iconst (-1)) (n := 1) (pc' := 18) (st' := [dz_I (-1)]) rfl rfl ?_
      refine wq_ri rfl rfl ?_
      replace H := dz_sm H
      exact H
    · replace H := dz_if c3 H
      refine wp_s (i := .iload_n 2) (n := 1) (pc' := 13) (st' := [dz_I a2]) rfl rfl ?_
      refine wp_s (i := .iconst 1) (n := 1) (pc' := 14) (st' := [dz_I 1, dz_I a2]) rfl rfl ?_
      refine wq_ic (p := dz_c a2 ≤ 1) (tt := 19) (pc' := 17) rfl rfl (cq_le rfl dk_1) rfl (fun c4 => ?_) (fun c4 => ?_)
      · replace H := dz_it c4 H
        refine wp_s (i := .aload_n 0) (n := 1) (pc' := 20) (st' := [.ref 0]) rfl rfl ?_
        refine wp_s (i := .iload_n 1) (n := 1) (pc' := 21) (st' := [dz_I a1, .ref 0]) rfl rfl ?_
        refine wp_s (i := .iconst 0) (n := 1) (pc' := 22) (st' := [dz_I 0, dz_I a1, .ref 0]) rfl rfl ?_
        refine wq_cv (Dq := (D + 5)) (r' := mm_r116) (as0 := [dz_I a1, dz_I 0]) (rest := []) (ls' := [some (.ref 0), some (dz_I a1), some (dz_I 0), none, none, none]) (pc' := 25) rfl rfl rfl rfl ho_O rfl rfl rfl ?_
        refine jw_O_chooseForShower (X := X) (D := D + 0) a1 0 Z (dz_pm (dz_bi H) (fun q5 H => ?_))
        show mm_Wp X (D + 6) mm_r87 25 [some (.ref 0), some (dz_I a1), some (dz_I a2)] [] (hz_0 q5) Q
        refine wp_s (i := .iload_n 2) (n := 1) (pc' := 26) (st' := [dz_I a2]) rfl rfl ?_
        refine wq_if (p := dz_c a2 ≠ 0) (tt := 39) (pc' := 29) rfl rfl (cz_ne rfl) rfl (fun c6 => ?_) (fun c6 => ?_)
        · replace H := dz_it c6 H
          refine wp_s (i := .aload_n 0) (n := 1) (pc' := 40) (st' := [.ref 0]) rfl rfl ?_
          refine wq_gr (idx := 52) (a := 65) (pc' := 43) rfl rfl ho_O rfl rfl ?_
          refine wq_gi (idx := 273) (pc' := 46) rfl rfl ho_K rfl rfl ?_
          refine wq_ri rfl rfl ?_
          replace H := dz_sm H
          exact H
        · replace H := dz_if c6 H
          refine wp_s (i := .aload_n 0) (n := 1) (pc' := 30) (st' := [.ref 0]) rfl rfl ?_
          refine wq_gr (idx := 52) (a := 65) (pc' := 33) rfl rfl ho_O rfl rfl ?_
          refine wq_gi (idx := 270) (pc' := 36) rfl rfl ho_K rfl rfl ?_
          refine wp_s (i := .goto 10) (n := 3) (pc' := 46) (st' := [dz_I (q5 65 4 0)]) rfl rfl ?_
          refine wq_ri rfl rfl ?_
          replace H := dz_sm H
          exact H
      · replace H := dz_if c4 H
        refine wp_s (i := .iconst (-1)) (n := 1) (pc' := 18) (st' := [dz_I (-1)]) rfl rfl ?_
        refine wq_ri rfl rfl ?_
        replace H := dz_sm H
        exact H
-- 117
def jf_O_chooseForAllShowers (Z : dz_Z) : Option (dz_Z) := if hz_isS (Z 0 3 0).toNat then if hz_isP (Z 0 2 0).toNat then Option.bind (jf_S_pegsAsNumber ((Z 0 3 0).toNat) (Z ((Z 0 2 0).toNat) 3 0) Z) fun q3 => Option.bind (jf_O_manySettings Z) fun q4 => Option.bind (jf_K_begin q3 (Z ((Z 0 2 0).toNat) 3 0) Z) fun q5 => dz_lp (fun (s6 : Int × dz_Z) => if dz_c q4 ≤ dz_c s6.1 then (if hz_isS (s6.2 0 3 0).toNat then if hz_isP (s6.2 0 2 0).toNat then Option.bind (jf_S_setPegs ((s6.2 0 3 0).toNat) (s6.2 ((s6.2 0 2 0).toNat) 3 0) q3 s6.2) fun q12 => some (Sum.inr q12) else none else none) else (if hz_isS (s6.2 0 3 0).toNat then if hz_isP (s6.2 0 2 0).toNat then Option.bind (jf_S_setPegs ((s6.2 0 3 0).toNat) (s6.2 ((s6.2 0 2 0).toNat) 3 0) s6.1 s6.2) fun q15 => dz_lp (fun (s16 : Int × Int × dz_Z) => if hz_isP (s16.2.2 0 2 0).toNat then if dz_c (s16.2.2 ((s16.2.2 0 2 0).toNat) 10 0) ≤ dz_c s16.2.1 then (Option.bind (jf_K_offer s6.1 s16.1 s16.2.2) fun q19 => some (Sum.inr (Sum.inl (s6.1 + 1, q19)))) else (if hz_isS (s16.2.2 0 3 0).toNat then Option.bind (jf_C_perform ((s16.2.2 0 2 0).toNat) ((s16.2.2 0 3 0).toNat) s16.2.1 s16.2.2) fun q21 => if hz_isS (q21 0 3 0).toNat then Option.bind (jf_C_farFromTune ((q21 0 3 0).toNat) q21) fun q23 => some (Sum.inl (s16.1 + q23, s16.2.1 + 1, q21)) else none else none) else none) 5000 (0, 0, q15) else none else none)) 5000 (0, q5) else none else none
set_option maxRecDepth 20000 in
theorem jw_O_chooseForAllShowers {X : Option (List Int32)} {D : Nat} {Q : Option Value → mm_H → Prop} (Z : dz_Z) (H : dz_p (jf_O_chooseForAllShowers Z) (fun q => Q (none) (hz_0 q))) : mm_Wp X (D + 5) mm_r117 0 [some (.ref 0), none, none, none, none, none] [] (hz_0 Z) Q := by
  unfold jf_O_chooseForAllShowers at H
  refine wp_s (i := .aload_n 0) (n := 1) (pc' := 1) (st' := [.ref 0]) rfl rfl ?_
  obtain ⟨k1, H⟩ := dz_ck H
  refine wq_gd (idx := 31) (pc' := 4) rfl rfl ho_O rfl rfl ?_
  refine wp_s (i := .aload_n 0) (n := 1) (pc' := 5) (st' := [.ref 0, .ref ((Z 0 3 0).toNat)]) rfl rfl ?_
  obtain ⟨k2, H⟩ := dz_ck H
  refine wq_gd (idx := 24) (pc' := 8) rfl rfl ho_O rfl rfl ?_
  refine wq_gi (idx := 111) (pc' := 11) rfl rfl (ho_P k2) rfl rfl ?_
  refine wq_cv (Dq := (D + 4)) (r' := mm_r55) (as0 := [dz_I (Z ((Z 0 2 0).toNat) 3 0)]) (rest := []) (ls' := [some (.ref ((Z 0 3 0).toNat)), some (dz_I (Z ((Z 0 2 0).toNat) 3 0)), none, none]) (pc' := 14) rfl rfl rfl rfl (ho_S k1) rfl rfl rfl ?_
  refine jw_S_pegsAsNumber (X := X) (D := D + 4) ((Z 0 3 0).toNat) k1 (Z ((Z 0 2 0).toNat) 3 0) Z (dz_pm (dz_bi H) (fun q3 H => ?_))
  show mm_Wp X (D + 5) mm_r117 14 [some (.ref 0), none, none, none, none, none] [dz_I q3] (hz_0 Z) Q
  refine wq_st (k := 1) (i := .istore_n 1) (n := 1) (ls' := [some (.ref 0), some (dz_I q3), none, none, none, none]) (pc' := 15) rfl rfl rfl rfl rfl ?_
  refine wp_s (i := .aload_n 0) (n := 1) (pc' := 16) (st' := [.ref 0]) rfl rfl ?_
  refine wq_cv (Dq := (D + 4)) (r' := mm_r114) (as0 := []) (rest := []) (ls' := [some (.ref 0), none, none]) (pc' := 19) rfl rfl rfl rfl ho_O rfl rfl rfl ?_
  refine jw_O_manySettings (X := X) (D := D + 4) Z (dz_pm (dz_bi H) (fun q4 H => ?_))
  show mm_Wp X (D + 5) mm_r117 19 [some (.ref 0), some (dz_I q3), none, none, none, none] [dz_I q4] (hz_0 Z) Q
  refine wq_st (k := 2) (i := .istore_n 2) (n := 1) (ls' := [some (.ref 0), some (dz_I q3), some (dz_I q4), none, none, none]) (pc' := 20) rfl rfl rfl rfl rfl ?_
  refine wp_s (i := .aload_n 0) (n := 1) (pc' := 21) (st' := [.ref 0]) rfl rfl ?_
  refine wq_gr (idx := 52) (a := 65) (pc' := 24) rfl rfl ho_O rfl rfl ?_
  refine wp_s (i := .iload_n 1) (n := 1) (pc' := 25) (st' := [dz_I q3, .ref 65]) rfl rfl ?_
  refine wp_s (i := .aload_n 0) (n := 1) (pc' := 26) (st' := [.ref 0, dz_I q3, .ref 65]) rfl rfl ?_
  refine wq_gd (idx := 24) (pc' := 29) rfl rfl ho_O rfl rfl ?_
  refine wq_gi (idx := 111) (pc' := 32) rfl rfl (ho_P k2) rfl rfl ?_
  refine wq_cv (Dq := (D + 4)) (r' := mm_r1) (as0 := [dz_I q3, dz_I (Z ((Z 0 2 0).toNat) 3 0)]) (rest := []) (ls' := [some (.ref 65), some (dz_I q3), some (dz_I (Z ((Z 0 2 0).toNat) 3 0))]) (pc' := 35) rfl rfl rfl rfl ho_K rfl rfl rfl ?_
  refine jw_K_begin (X := X) (D := D + 4) q3 (Z ((Z 0 2 0).toNat) 3 0) Z (dz_pm (dz_bi H) (fun q5 H => ?_))
  show mm_Wp X (D + 5) mm_r117 35 [some (.ref 0), some (dz_I q3), some (dz_I q4), none, none, none] [] (hz_0 q5) Q
  refine wp_s (i := .iconst 0) (n := 1) (pc' := 36) (st' := [dz_I 0]) rfl rfl ?_
  refine wq_st (k := 3) (i := .istore_n 3) (n := 1) (ls' := [some (.ref 0), some (dz_I q3), some (dz_I q4), some (dz_I 0), none, none]) (pc' := 37) rfl rfl rfl rfl rfl ?_
  refine dz_lpi (P := fun (s6 : Int × dz_Z) => ∀ (u7 u8 : Option Int32), mm_Wp X (D + 5) mm_r117 37 [some (.ref 0), some (dz_I q3), some (dz_I q4), some (dz_I s6.1), Option.map Value.int u7, Option.map Value.int u8] [] (hz_0 s6.2) Q) (fun s6 H => ?_) 5000 (0, q5) H none none
  intro u7 u8
  refine wp_s (i := .iload_n 3) (n := 1) (pc' := 38) (st' := [dz_I s6.1]) rfl rfl ?_
  refine wp_s (i := .iload_n 2) (n := 1) (pc' := 39) (st' := [dz_I q4, dz_I s6.1]) rfl rfl ?_
  refine wq_ic (p := dz_c q4 ≤ dz_c s6.1) (tt := 130) (pc' := 42) rfl rfl (cq_ge rfl rfl) rfl (fun c9 => ?_) (fun c9 => ?_)
  · replace H := dz_it c9 H
    refine wp_s (i := .aload_n 0) (n := 1) (pc' := 131) (st' := [.ref 0]) rfl rfl ?_
    obtain ⟨k10, H⟩ := dz_ck H
    refine wq_gd (idx := 31) (pc' := 134) rfl rfl ho_O rfl rfl ?_
    refine wp_s (i := .aload_n 0) (n := 1) (pc' := 135) (st' := [.ref 0, .ref ((s6.2 0 3 0).toNat)]) rfl rfl ?_
    obtain ⟨k11, H⟩ := dz_ck H
    refine wq_gd (idx := 24) (pc' := 138) rfl rfl ho_O rfl rfl ?_
    refine wq_gi (idx := 111) (pc' := 141) rfl rfl (ho_P k11) rfl rfl ?_
    refine wp_s (i := .iload_n 1) (n := 1) (pc' := 142) (st' := [dz_I q3, dz_I (s6.2 ((s6.2 0 2 0).toNat) 3 0), .ref ((s6.2 0 3 0).toNat)]) rfl rfl ?_
    refine wq_cv (Dq := (D + 4)) (r' := mm_r56) (as0 := [dz_I (s6.2 ((s6.2 0 2 0).toNat) 3 0), dz_I q3]) (rest := []) (ls' := [some (.ref ((s6.2 0 3 0).toNat)), some (dz_I (s6.2 ((s6.2 0 2 0).toNat) 3 0)), some (dz_I q3), none, none]) (pc' := 145) rfl rfl rfl rfl (ho_S k10) rfl rfl rfl ?_
    refine jw_S_setPegs (X := X) (D := D + 4) ((s6.2 0 3 0).toNat) k10 (s6.2 ((s6.2 0 2 0).toNat) 3 0) q3 s6.2 (dz_pm (dz_bi H) (fun q12 H => ?_))
    show mm_Wp X (D + 5) mm_r117 145 [some (.ref 0), some (dz_I q3), some (dz_I q4), some (dz_I s6.1), Option.map Value.int u7, Option.map Value.int u8] [] (hz_0 q12) Q
    refine wq_rv rfl rfl ?_
    replace H := dz_out H
    replace H := dz_sm H
    exact H
  · replace H := dz_if c9 H
    refine wp_s (i := .aload_n 0) (n := 1) (pc' := 43) (st' := [.ref 0]) rfl rfl ?_
    obtain ⟨k13, H⟩ := dz_ck H
    refine wq_gd (idx := 31) (pc' := 46) rfl rfl ho_O rfl rfl ?_
    refine wp_s (i := .aload_n 0) (n := 1) (pc' := 47) (st' := [.ref 0, .ref ((s6.2 0 3 0).toNat)]) rfl rfl ?_
    obtain ⟨k14, H⟩ := dz_ck H
    refine wq_gd (idx := 24) (pc' := 50) rfl rfl ho_O rfl rfl ?_
    refine wq_gi (idx := 111) (pc' := 53) rfl rfl (ho_P k14) rfl rfl ?_
    refine wp_s (i := .iload_n 3) (n := 1) (pc' := 54) (st' := [dz_I s6.1, dz_I (s6.2 ((s6.2 0 2 0).toNat) 3 0), .ref ((s6.2 0 3 0).toNat)]) rfl rfl ?_
    refine wq_cv (Dq := (D + 4)) (r' := mm_r56) (as0 := [dz_I (s6.2 ((s6.2 0 2 0).toNat) 3 0), dz_I s6.1]) (rest := []) (ls' := [some (.ref ((s6.2 0 3 0).toNat)), some (dz_I (s6.2 ((s6.2 0 2 0).toNat) 3 0)), some (dz_I s6.1), none, none]) (pc' := 57) rfl rfl rfl rfl (ho_S k13) rfl rfl rfl ?_
    refine jw_S_setPegs (X := X) (D := D + 4) ((s6.2 0 3 0).toNat) k13 (s6.2 ((s6.2 0 2 0).toNat) 3 0) s6.1 s6.2 (dz_pm (dz_bi H) (fun q15 H => ?_))
    show mm_Wp X (D + 5) mm_r117 57 [some (.ref 0), some (dz_I q3), some (dz_I q4), some (dz_I s6.1), Option.map Value.int u7, Option.map Value.int u8] [] (hz_0 q15) Q
    refine wp_s (i := .iconst 0) (n := 1) (pc' := 58) (st' := [dz_I 0]) rfl rfl ?_
    refine wq_st (k := 4) (i := .istore 4) (n := 2) (ls' := [some (.ref 0), some (dz_I q3), some (dz_I q4), some (dz_I s6.1), some (dz_I 0), Option.map Value.int u8]) (pc' := 60) rfl rfl rfl rfl rfl ?_
    refine wp_s (i := .iconst 0) (n := 1) (pc' := 61) (st' := [dz_I 0]) rfl rfl ?_
    refine wq_st (k := 5) (i := .istore 5) (n := 2) (ls' := [some (.ref 0), some (dz_I q3), some (dz_I q4), some (dz_I s6.1), some (dz_I 0), some (dz_I 0)]) (pc' := 63) rfl rfl rfl rfl rfl ?_
    refine dz_lpi (P := fun (s16 : Int × Int × dz_Z) => mm_Wp X (D + 5) mm_r117 63 [some (.ref 0), some (dz_I q3), some (dz_I q4), some (dz_I s6.1), some (dz_I s16.1), some (dz_I s16.2.1)] [] (hz_0 s16.2.2) Q) (fun s16 H => ?_) 5000 (0, 0, q15) H
    refine wp_s (i := .iload 5) (n := 2) (pc' := 65) (st' := [dz_I s16.2.1]) rfl rfl ?_
    refine wp_s (i := .aload_n 0) (n := 1) (pc' := 66) (st' := [.ref 0, dz_I s16.2.1]) rfl rfl ?_
    obtain ⟨k17, H⟩ := dz_ck H
    refine wq_gd (idx := 24) (pc' := 69) rfl rfl ho_O rfl rfl ?_
    refine wq_gi (idx := 117) (pc' := 72) rfl rfl (ho_P k17) rfl rfl ?_
    refine wq_ic (p := dz_c (s16.2.2 ((s16.2.2 0 2 0).toNat) 10 0) ≤ dz_c s16.2.1) (tt := 114) (pc' := 75) rfl rfl (cq_ge rfl rfl) rfl (fun c18 => ?_) (fun c18 => ?_)
    · replace H := dz_it c18 H
      refine wp_s (i := .aload_n 0) (n := 1) (pc' := 115) (st' := [.ref 0]) rfl rfl ?_
      refine wq_gr (idx := 52) (a := 65) (pc' := 118) rfl rfl ho_O rfl rfl ?_
      refine wp_s (i := .iload_n 3) (n := 1) (pc' := 119) (st' := [dz_I s6.1, .ref 65]) rfl rfl ?_
      refine wp_s (i := .iload 4) (n := 2) (pc' := 121) (st' := [dz_I s16.1, dz_I s6.1, .ref 65]) rfl rfl ?_
      refine wq_cv (Dq := (D + 4)) (r' := mm_r2) (as0 := [dz_I s6.1, dz_I s16.1]) (rest := []) (ls' := [some (.ref 65), some (dz_I s6.1), some (dz_I s16.1), none, none]) (pc' := 124) rfl rfl rfl rfl ho_K rfl rfl rfl ?_
      refine jw_K_offer (X := X) (D := D + 3) s6.1 s16.1 s16.2.2 (dz_pm (dz_bi H) (fun q19 H => ?_))
      show mm_Wp X (D + 5) mm_r117 124 [some (.ref 0), some (dz_I q3), some (dz_I q4), some (dz_I s6.1), some (dz_I s16.1), some (dz_I s16.2.1)] [] (hz_0 q19) Q
      refine wq_inc (k := 3) (d := 1) (x := s6.1) (ls' := [some (.ref 0), some (dz_I q3), some (dz_I q4), some (dz_I (s6.1 + 1)), some (dz_I s16.1), some (dz_I s16.2.1)]) (pc' := 127) rfl rfl rfl rfl ?_
      refine wp_s (i := .goto (-90)) (n := 3) (pc' := 37) (st' := []) rfl rfl ?_
      replace H := dz_out H
      replace H := dz_back H
      exact H (some (Int32.ofInt s16.1)) (some (Int32.ofInt s16.2.1))
    · replace H := dz_if c18 H
      refine wp_s (i := .aload_n 0) (n := 1) (pc' := 76) (st' := [.ref 0]) rfl rfl ?_
      refine wq_gr (idx := 45) (a := 54) (pc' := 79) rfl rfl ho_O rfl rfl ?_
      refine wp_s (i := .aload_n 0) (n := 1) (pc' := 80) (st' := [.ref 0, .ref 54]) rfl rfl ?_
      refine wq_gd (idx := 24) (pc' := 83) rfl rfl ho_O rfl rfl ?_
      refine wp_s (i := .aload_n 0) (n := 1) (pc' := 84) (st' := [.ref 0, .ref ((s16.2.2 0 2 0).toNat), .ref 54]) rfl rfl ?_
      obtain ⟨k20, H⟩ := dz_ck H
      refine wq_gd (idx := 31) (pc' := 87) rfl rfl ho_O rfl rfl ?_
      refine wp_s (i := .iload 5) (n := 2) (pc' := 89) (st' := [dz_I s16.2.1, .ref ((s16.2.2 0 3 0).toNat), .ref ((s16.2.2 0 2 0).toNat), .ref 54]) rfl rfl ?_
      refine wq_cv (Dq := (D + 4)) (r' := mm_r5) (as0 := [.ref ((s16.2.2 0 2 0).toNat), .ref ((s16.2.2 0 3 0).toNat), dz_I s16.2.1]) (rest := []) (ls' := [some (.ref 54), some (.ref ((s16.2.2 0 2 0).toNat)), some (.ref ((s16.2.2 0 3 0).toNat)), some (dz_I s16.2.1), none, none]) (pc' := 92) rfl rfl rfl rfl ho_C rfl rfl rfl ?_
      refine jw_C_perform (X := X) (D := D + 0) ((s16.2.2 0 2 0).toNat) k17 ((s16.2.2 0 3 0).toNat) k20 s16.2.1 s16.2.2 (dz_pm (dz_bi H) (fun q21 H => ?_))
      show mm_Wp X (D + 5) mm_r117 92 [some (.ref 0), some (dz_I q3), some (dz_I q4), some (dz_I s6.1), some (dz_I s16.1), some (dz_I s16.2.1)] [] (hz_0 q21) Q
      refine wp_s (i := .iload 4) (n := 2) (pc' := 94) (st' := [dz_I s16.1]) rfl rfl ?_
      refine wp_s (i := .aload_n 0) (n := 1) (pc' := 95) (st' := [.ref 0, dz_I s16.1]) rfl rfl ?_
      refine wq_gr (idx := 45) (a := 54) (pc' := 98) rfl rfl ho_O rfl rfl ?_
      refine wp_s (i := .aload_n 0) (n := 1) (pc' := 99) (st' := [.ref 0, .ref 54, dz_I s16.1]) rfl rfl ?_
      obtain ⟨k22, H⟩ := dz_ck H
      refine wq_gd (idx := 31) (pc' := 102) rfl rfl ho_O rfl rfl ?_
      refine wq_cv (Dq := (D + 4)) (r' := mm_r6) (as0 := [.ref ((q21 0 3 0).toNat)]) (rest := [dz_I s16.1]) (ls' := [some (.ref 54), some (.ref ((q21 0 3 0).toNat)), none, none, none, none]) (pc' := 105) rfl rfl rfl rfl ho_C rfl rfl rfl ?_
      refine jw_C_farFromTune (X := X) (D := D + 3) ((q21 0 3 0).toNat) k22 q21 (dz_pm (dz_bi H) (fun q23 H => ?_))
      show mm_Wp X (D + 5) mm_r117 105 [some (.ref 0), some (dz_I q3), some (dz_I q4), some (dz_I s6.1), some (dz_I s16.1), some (dz_I s16.2.1)] [dz_I q23, dz_I s16.1] (hz_0 q21) Q
      refine wq_2 (i := .iadd) (z := s16.1 + q23) (pc' := 106) rfl rfl (op_add _ _) rfl ?_
      refine wq_st (k := 4) (i := .istore 4) (n := 2) (ls' := [some (.ref 0), some (dz_I q3), some (dz_I q4), some (dz_I s6.1), some (dz_I (s16.1 + q23)), some (dz_I s16.2.1)]) (pc' := 108) rfl rfl rfl rfl rfl ?_
      refine wq_inc (k := 5) (d := 1) (x := s16.2.1) (ls' := [some (.ref 0), some (dz_I q3), some (dz_I q4), some (dz_I s6.1), some (dz_I (s16.1 + q23)), some (dz_I (s16.2.1 + 1))]) (pc' := 111) rfl rfl rfl rfl ?_
      refine wp_s (i := .goto (-48)) (n := 3) (pc' := 63) (st' := []) rfl rfl ?_
      replace H := dz_back H
      exact H
-- 88
def jf_O_all (a1 : Int) (Z : dz_Z) : Option (Int × dz_Z) := if dz_c a1 < 0 then (some ((-1), Z)) else (if dz_c a1 ≤ 1 then (if hz_isP (Z 0 2 0).toNat then if dz_c (Z ((Z 0 2 0).toNat) 10 0) ≠ 0 then (Option.bind (jf_O_chooseForAllShowers Z) fun q5 => if dz_c a1 ≠ 0 then (some (q5 65 1 0, q5)) else (some (q5 65 0 0, q5))) else (some ((-2), Z)) else none) else (some ((-1), Z)))
set_option maxRecDepth 20000 in
theorem jw_O_all {X : Option (List Int32)} {D : Nat} {Q : Option Value → mm_H → Prop} (a1 : Int) (Z : dz_Z) (H : dz_p (jf_O_all a1 Z) (fun q => Q (some (dz_I q.1)) (hz_0 q.2))) : mm_Wp X (D + 6) mm_r88 0 [some (.ref 0), some (dz_I a1)] [] (hz_0 Z) Q := by
  unfold jf_O_all at H
  refine wp_s (i := .iload_n 1) (n := 1) (pc' := 1) (st' := [dz_I a1]) rfl rfl ?_
  refine wq_if (p := dz_c a1 < 0) (tt := 9) (pc' := 4) rfl rfl (cz_lt rfl) rfl (fun c1 => ?_) (fun c1 => ?_)
  · replace H := dz_it c1 H
    refine wp_s (i := .iconst (-1)) (n := 1) (pc' := 10) (st' := [dz_I (-1)]) rfl rfl ?_
    refine wq_ri rfl rfl ?_
    replace H := dz_sm H
    exact H
  · replace H := dz_if c1 H
    refine wp_s (i := .iload_n 1) (n := 1) (pc' := 5) (st' := [dz_I a1]) rfl rfl ?_
    refine wp_s (i := .iconst 1) (n := 1) (pc' := 6) (st' := [dz_I 1, dz_I a1]) rfl rfl ?_
    refine wq_ic (p := dz_c a1 ≤ 1) (tt := 11) (pc' := 9) rfl rfl (cq_le rfl dk_1) rfl (fun c2 => ?_) (fun c2 => ?_)
    · replace H := dz_it c2 H
      refine wp_s (i := .aload_n 0) (n := 1) (pc' := 12) (st' := [.ref 0]) rfl rfl ?_
      obtain ⟨k3, H⟩ := dz_ck H
      refine wq_gd (idx := 24) (pc' := 15) rfl rfl ho_O rfl rfl ?_
      refine wq_gi (idx := 117) (pc' := 18) rfl rfl (ho_P k3) rfl rfl ?_
      refine wq_if (p := dz_c (Z ((Z 0 2 0).toNat) 10 0) ≠ 0) (tt := 24) (pc' := 21) rfl rfl (cz_ne rfl) rfl (fun c4 => ?_) (fun c4 => ?_)
      · replace H := dz_it c4 H
        refine wp_s (i := .aload_n 0) (n := 1) (pc' := 25) (st' := [.ref 0]) rfl rfl ?_
        refine wq_cv (Dq := (D + 5)) (r' := mm_r117) (as0 := []) (rest := []) (ls' := [some (.ref 0), none, none, none, none, none]) (pc' := 28) rfl rfl rfl rfl ho_O rfl rfl rfl ?_
        refine jw_O_chooseForAllShowers (X := X) (D := D + 0) Z (dz_pm (dz_bi H) (fun q5 H => ?_))
        show mm_Wp X (D + 6) mm_r88 28 [some (.ref 0), some (dz_I a1)] [] (hz_0 q5) Q
        refine wp_s (i := .iload_n 1) (n := 1) (pc' := 29) (st' := [dz_I a1]) rfl rfl ?_
        refine wq_if (p := dz_c a1 ≠ 0) (tt := 42) (pc' := 32) rfl rfl (cz_ne rfl) rfl (fun c6 => ?_) (fun c6 => ?_)
        · replace H := dz_it c6 H
          refine wp_s (i := .aload_n 0) (n := 1) (pc' := 43) (st' := [.ref 0]) rfl rfl ?_
          refine wq_gr (idx := 52) (a := 65) (pc' := 46) rfl rfl ho_O rfl rfl ?_
          refine wq_gi (idx := 264) (pc' := 49) rfl rfl ho_K rfl rfl ?_
          refine wq_ri rfl rfl ?_
          replace H := dz_sm H
          exact H
        · replace H := dz_if c6 H
          refine wp_s (i := .aload_n 0) (n := 1) (pc' := 33) (st' := [.ref 0]) rfl rfl ?_
          refine wq_gr (idx := 52) (a := 65) (pc' := 36) rfl rfl ho_O rfl rfl ?_
          refine wq_gi (idx := 261) (pc' := 39) rfl rfl ho_K rfl rfl ?_
          refine wp_s (i := .goto 10) (n := 3) (pc' := 49) (st' := [dz_I (q5 65 0 0)]) rfl rfl ?_
          refine wq_ri rfl rfl ?_
          replace H := dz_sm H
          exact H
      · replace H := dz_if c4 H
        refine wp_s (i := .bipush (-2)) (n := 2) (pc' := 23) (st' := [dz_I (-2)]) rfl rfl ?_
        refine wq_ri rfl rfl ?_
        replace H := dz_sm H
        exact H
    · replace H := dz_if c2 H
      refine wp_s (i := .iconst (-1)) (n := 1) (pc' := 10) (st' := [dz_I (-1)]) rfl rfl ?_
      refine wq_ri rfl rfl ?_
      replace H := dz_sm H
      exact H
-- 89
def jf_O_quiet (a1 : Int) (a2 : Int) (Z : dz_Z) : Option (Int × dz_Z) := Option.bind (jf_O_isShower a1 Z) fun q1 => if q1 = false then (some ((-1), Z)) else (if dz_c a2 < 0 then (some ((-1), Z)) else (if dz_c a2 ≤ 2 then (Option.bind (jf_O_chooseForShower a1 1 Z) fun q5 => if dz_c a2 ≠ 2 then (if dz_c (q5 65 3 0) ≠ 0 then (if dz_c a2 ≠ 0 then (some (q5 65 1 0, q5)) else (some (q5 65 0 0, q5))) else (some ((-4), q5))) else (some (q5 65 3 0, q5))) else (some ((-1), Z))))
set_option maxRecDepth 20000 in
theorem jw_O_quiet {X : Option (List Int32)} {D : Nat} {Q : Option Value → mm_H → Prop} (a1 : Int) (a2 : Int) (Z : dz_Z) (H : dz_p (jf_O_quiet a1 a2 Z) (fun q => Q (some (dz_I q.1)) (hz_0 q.2))) : mm_Wp X (D + 6) mm_r89 0 [some (.ref 0), some (dz_I a1), some (dz_I a2)] [] (hz_0 Z) Q := by
  unfold jf_O_quiet at H
  refine wp_s (i := .aload_n 0) (n := 1) (pc' := 1) (st' := [.ref 0]) rfl rfl ?_
  refine wp_s (i := .iload_n 1) (n := 1) (pc' := 2) (st' := [dz_I a1, .ref 0]) rfl rfl ?_
  refine wq_cv (Dq := (D + 5)) (r' := mm_r105) (as0 := [dz_I a1]) (rest := []) (ls' := [some (.ref 0), some (dz_I a1)]) (pc' := 5) rfl rfl rfl rfl ho_O rfl rfl rfl ?_
  refine jw_O_isShower (X := X) (D := D + 5) a1 Z (dz_pm (dz_bi H) (fun q1 H => ?_))
  show mm_Wp X (D + 6) mm_r89 5 [some (.ref 0), some (dz_I a1), some (dz_I a2)] [dz_B q1] (hz_0 Z) Q
  refine wq_if (p := q1 = false) (tt := 17) (pc' := 8) rfl rfl (cb_eq) rfl (fun c2 => ?_) (fun c2 => ?_)
  · replace H := dz_it c2 H
    refine wp_s (i := .iconst (-1)) (n := 1) (pc' := 18) (st' := [dz_I (-1)]) rfl rfl ?_
    refine wq_ri rfl rfl ?_
    replace H := dz_sm H
    exact H
  · replace H := dz_if c2 H
    refine wp_s (i := .iload_n 2) (n := 1) (pc' := 9) (st' := [dz_I a2]) rfl rfl ?_
    refine wq_if (p := dz_c a2 < 0) (tt := 17) (pc' := 12) rfl rfl (cz_lt rfl) rfl (fun c3 => ?_) (fun c3 => ?_)
    · replace H := dz_it c3 H
      refine wp_s (i := .iconst (-1)) (n := 1) (pc' := 18) (st' := [dz_I (-1)]) rfl rfl ?_
      refine wq_ri rfl rfl ?_
      replace H := dz_sm H
      exact H
    · replace H := dz_if c3 H
      refine wp_s (i := .iload_n 2) (n := 1) (pc' := 13) (st' := [dz_I a2]) rfl rfl ?_
      refine wp_s (i := .iconst 2) (n := 1) (pc' := 14) (st' := [dz_I 2, dz_I a2]) rfl rfl ?_
      refine wq_ic (p := dz_c a2 ≤ 2) (tt := 19) (pc' := 17) rfl rfl (cq_le rfl dk_2) rfl (fun c4 => ?_) (fun c4 => ?_)
      · replace H := dz_it c4 H
        refine wp_s (i := .aload_n 0) (n := 1) (pc' := 20) (st' := [.ref 0]) rfl rfl ?_
        refine wp_s (i := .iload_n 1) (n := 1) (pc' := 21) (st' := [dz_I a1, .ref 0]) rfl rfl ?_
        refine wp_s (i := .iconst 1) (n := 1) (pc' := 22) (st' := [dz_I 1, dz_I a1, .ref 0]) rfl rfl ?_
        refine wq_cv (Dq := (D + 5)) (r' := mm_r116) (as0 := [dz_I a1, dz_I 1]) (rest := []) (ls' := [some (.ref 0), some (dz_I a1), some (dz_I 1), none, none, none]) (pc' := 25) rfl rfl rfl rfl ho_O rfl rfl rfl ?_
        refine jw_O_chooseForShower (X := X) (D := D + 0) a1 1 Z (dz_pm (dz_bi H) (fun q5 H => ?_))
        show mm_Wp X (D + 6) mm_r89 25 [some (.ref 0), some (dz_I a1), some (dz_I a2)] [] (hz_0 q5) Q
        refine wp_s (i := .iload_n 2) (n := 1) (pc' := 26) (st' := [dz_I a2]) rfl rfl ?_
        refine wp_s (i := .iconst 2) (n := 1) (pc' := 27) (st' := [dz_I 2, dz_I a2]) rfl rfl ?_
        refine wq_ic (p := dz_c a2 ≠ 2) (tt := 38) (pc' := 30) rfl rfl (cq_ne rfl dk_2) rfl (fun c6 => ?_) (fun c6 => ?_)
        · replace H := dz_it c6 H
          refine wp_s (i := .aload_n 0) (n := 1) (pc' := 39) (st' := [.ref 0]) rfl rfl ?_
          refine wq_gr (idx := 52) (a := 65) (pc' := 42) rfl rfl ho_O rfl rfl ?_
          refine wq_gi (idx := 279) (pc' := 45) rfl rfl ho_K rfl rfl ?_
          refine wq_if (p := dz_c (q5 65 3 0) ≠ 0) (tt := 51) (pc' := 48) rfl rfl (cz_ne rfl) rfl (fun c7 => ?_) (fun c7 => ?_)
          · replace H := dz_it c7 H
            refine wp_s (i := .iload_n 2) (n := 1) (pc' := 52) (st' := [dz_I a2]) rfl rfl ?_
            refine wq_if (p := dz_c a2 ≠ 0) (tt := 65) (pc' := 55) rfl rfl (cz_ne rfl) rfl (fun c8 => ?_) (fun c8 => ?_)
            · replace H := dz_it c8 H
              refine wp_s (i := .aload_n 0) (n := 1) (pc' := 66) (st' := [.ref 0]) rfl rfl ?_
              refine wq_gr (idx := 52) (a := 65) (pc' := 69) rfl rfl ho_O rfl rfl ?_
              refine wq_gi (idx := 264) (pc' := 72) rfl rfl ho_K rfl rfl ?_
              refine wq_ri rfl rfl ?_
              replace H := dz_sm H
              exact H
            · replace H := dz_if c8 H
              refine wp_s (i := .aload_n 0) (n := 1) (pc' := 56) (st' := [.ref 0]) rfl rfl ?_
              refine wq_gr (idx := 52) (a := 65) (pc' := 59) rfl rfl ho_O rfl rfl ?_
              refine wq_gi (idx := 261) (pc' := 62) rfl rfl ho_K rfl rfl ?_
              refine wp_s (i := .goto 10) (n := 3) (pc' := 72) (st' := [dz_I (q5 65 0 0)]) rfl rfl ?_
              refine wq_ri rfl rfl ?_
              replace H := dz_sm H
              exact H
          · replace H := dz_if c7 H
            refine wp_s (i := .bipush (-4)) (n := 2) (pc' := 50) (st' := [dz_I (-4)]) rfl rfl ?_
            refine wq_ri rfl rfl ?_
            replace H := dz_sm H
            exact H
        · replace H := dz_if c6 H
          refine wp_s (i := .aload_n 0) (n := 1) (pc' := 31) (st' := [.ref 0]) rfl rfl ?_
          refine wq_gr (idx := 52) (a := 65) (pc' := 34) rfl rfl ho_O rfl rfl ?_
          refine wq_gi (idx := 279) (pc' := 37) rfl rfl ho_K rfl rfl ?_
          refine wq_ri rfl rfl ?_
          replace H := dz_sm H
          exact H
      · replace H := dz_if c4 H
        refine wp_s (i := .iconst (-1)) (n := 1) (pc' := 18) (st' := [dz_I (-1)]) rfl rfl ?_
        refine wq_ri rfl rfl ?_
        replace H := dz_sm H
        exact H
-- 90
def jf_O_woken (a1 : Int) (Z : dz_Z) : Option (Int × dz_Z) := Option.bind (jf_O_isShower a1 Z) fun q1 => if q1 = true then (if hz_isP (Z 0 2 0).toNat then if hz_isS (Z 0 3 0).toNat then Option.bind (jf_C_perform ((Z 0 2 0).toNat) ((Z 0 3 0).toNat) a1 Z) fun q5 => if hz_isP (q5 0 2 0).toNat then Option.bind (jf_C_wokenSleepers ((q5 0 2 0).toNat) q5) fun q7 => some (q7, q5) else none else none else none) else (some ((-1), Z))
set_option maxRecDepth 20000 in
theorem jw_O_woken {X : Option (List Int32)} {D : Nat} {Q : Option Value → mm_H → Prop} (a1 : Int) (Z : dz_Z) (H : dz_p (jf_O_woken a1 Z) (fun q => Q (some (dz_I q.1)) (hz_0 q.2))) : mm_Wp X (D + 5) mm_r90 0 [some (.ref 0), some (dz_I a1)] [] (hz_0 Z) Q := by
  unfold jf_O_woken at H
  refine wp_s (i := .aload_n 0) (n := 1) (pc' := 1) (st' := [.ref 0]) rfl rfl ?_
  refine wp_s (i := .iload_n 1) (n := 1) (pc' := 2) (st' := [dz_I a1, .ref 0]) rfl rfl ?_
  refine wq_cv (Dq := (D + 4)) (r' := mm_r105) (as0 := [dz_I a1]) (rest := []) (ls' := [some (.ref 0), some (dz_I a1)]) (pc' := 5) rfl rfl rfl rfl ho_O rfl rfl rfl ?_
  refine jw_O_isShower (X := X) (D := D + 4) a1 Z (dz_pm (dz_bi H) (fun q1 H => ?_))
  show mm_Wp X (D + 5) mm_r90 5 [some (.ref 0), some (dz_I a1)] [dz_B q1] (hz_0 Z) Q
  refine wq_if (p := q1 = true) (tt := 10) (pc' := 8) rfl rfl (cb_ne) rfl (fun c2 => ?_) (fun c2 => ?_)
  · replace H := dz_it c2 H
    refine wp_s (i := .aload_n 0) (n := 1) (pc' := 11) (st' := [.ref 0]) rfl rfl ?_
    refine wq_gr (idx := 45) (a := 54) (pc' := 14) rfl rfl ho_O rfl rfl ?_
    refine wp_s (i := .aload_n 0) (n := 1) (pc' := 15) (st' := [.ref 0, .ref 54]) rfl rfl ?_
    obtain ⟨k3, H⟩ := dz_ck H
    refine wq_gd (idx := 24) (pc' := 18) rfl rfl ho_O rfl rfl ?_
    refine wp_s (i := .aload_n 0) (n := 1) (pc' := 19) (st' := [.ref 0, .ref ((Z 0 2 0).toNat), .ref 54]) rfl rfl ?_
    obtain ⟨k4, H⟩ := dz_ck H
    refine wq_gd (idx := 31) (pc' := 22) rfl rfl ho_O rfl rfl ?_
    refine wp_s (i := .iload_n 1) (n := 1) (pc' := 23) (st' := [dz_I a1, .ref ((Z 0 3 0).toNat), .ref ((Z 0 2 0).toNat), .ref 54]) rfl rfl ?_
    refine wq_cv (Dq := (D + 4)) (r' := mm_r5) (as0 := [.ref ((Z 0 2 0).toNat), .ref ((Z 0 3 0).toNat), dz_I a1]) (rest := []) (ls' := [some (.ref 54), some (.ref ((Z 0 2 0).toNat)), some (.ref ((Z 0 3 0).toNat)), some (dz_I a1), none, none]) (pc' := 26) rfl rfl rfl rfl ho_C rfl rfl rfl ?_
    refine jw_C_perform (X := X) (D := D + 0) ((Z 0 2 0).toNat) k3 ((Z 0 3 0).toNat) k4 a1 Z (dz_pm (dz_bi H) (fun q5 H => ?_))
    show mm_Wp X (D + 5) mm_r90 26 [some (.ref 0), some (dz_I a1)] [] (hz_0 q5) Q
    refine wp_s (i := .aload_n 0) (n := 1) (pc' := 27) (st' := [.ref 0]) rfl rfl ?_
    refine wq_gr (idx := 45) (a := 54) (pc' := 30) rfl rfl ho_O rfl rfl ?_
    refine wp_s (i := .aload_n 0) (n := 1) (pc' := 31) (st' := [.ref 0, .ref 54]) rfl rfl ?_
    obtain ⟨k6, H⟩ := dz_ck H
    refine wq_gd (idx := 24) (pc' := 34) rfl rfl ho_O rfl rfl ?_
    refine wq_cv (Dq := (D + 4)) (r' := mm_r8) (as0 := [.ref ((q5 0 2 0).toNat)]) (rest := []) (ls' := [some (.ref 54), some (.ref ((q5 0 2 0).toNat)), none, none, none]) (pc' := 37) rfl rfl rfl rfl ho_C rfl rfl rfl ?_
    refine jw_C_wokenSleepers (X := X) (D := D + 4) ((q5 0 2 0).toNat) k6 q5 (dz_pm (dz_bi H) (fun q7 H => ?_))
    show mm_Wp X (D + 5) mm_r90 37 [some (.ref 0), some (dz_I a1)] [dz_I q7] (hz_0 q5) Q
    refine wq_ri rfl rfl ?_
    replace H := dz_sm H
    exact H
  · replace H := dz_if c2 H
    refine wp_s (i := .iconst (-1)) (n := 1) (pc' := 9) (st' := [dz_I (-1)]) rfl rfl ?_
    refine wq_ri rfl rfl ?_
    replace H := dz_sm H
    exact H
-- 118
def jf_O_soundsAsTheTune (a1 : Int) (Z : dz_Z) : Option (Bool × dz_Z) := Option.bind (jf_F_dryUp 55 Z) fun q1 => if hz_isS (q1 0 3 0).toNat then dz_lp (fun (s3 : Int × dz_Z) => if dz_c (q1 ((q1 0 3 0).toNat) 6 0) ≤ dz_c s3.1 then (some (Sum.inr (true, s3.2))) else (dz_a (dz_an (dz_ur a1 (2 * (((q1 ((q1 0 3 0).toNat) 6 0) - 1) - s3.1))) 3) fun x6 => if hz_isP (s3.2 0 2 0).toNat then if hz_isS (s3.2 0 3 0).toNat then Option.bind (jf_F_passSecond 55 ((s3.2 0 2 0).toNat) ((s3.2 0 3 0).toNat) x6 s3.2) fun q9 => if hz_isS (q9.2 0 3 0).toNat then if 0 ≤ dz_c s3.1 ∧ dz_c s3.1 < 12 then if dz_c q9.1 = dz_c (q9.2 ((q9.2 0 3 0).toNat) 5 (dz_c s3.1)) then (some (Sum.inl (s3.1 + 1, q9.2))) else (some (Sum.inr (false, q9.2))) else none else none else none else none)) 5000 (0, q1) else none
set_option maxRecDepth 20000 in
theorem jw_O_soundsAsTheTune {X : Option (List Int32)} {D : Nat} {Q : Option Value → mm_H → Prop} (a1 : Int) (Z : dz_Z) (H : dz_p (jf_O_soundsAsTheTune a1 Z) (fun q => Q (some (dz_B q.1)) (hz_0 q.2))) : mm_Wp X (D + 4) mm_r118 0 [some (.ref 0), some (dz_I a1), none, none, none, none] [] (hz_0 Z) Q := by
  unfold jf_O_soundsAsTheTune at H
  refine wp_s (i := .aload_n 0) (n := 1) (pc' := 1) (st' := [.ref 0]) rfl rfl ?_
  refine wq_gr (idx := 45) (a := 54) (pc' := 4) rfl rfl ho_O rfl rfl ?_
  refine wq_gr (idx := 235) (a := 55) (pc' := 7) rfl rfl ho_C rfl rfl ?_
  refine wp_s (i := .astore_n 2) (n := 1) (pc' := 8) (ls' := [some (.ref 0), some (dz_I a1), some (.ref 55), none, none, none]) (st' := []) rfl rfl ?_
  refine wp_s (i := .aload_n 2) (n := 1) (pc' := 9) (st' := [.ref 55]) rfl rfl ?_
  refine wq_cv (Dq := (D + 3)) (r' := mm_r10) (as0 := []) (rest := []) (ls' := [some (.ref 55)]) (pc' := 12) rfl rfl rfl rfl (ho_F (Or.inr (Or.inl rfl))) rfl rfl rfl ?_
  refine jw_F_dryUp (X := X) (D := D + 2) 55 (Or.inr (Or.inl rfl)) Z (dz_pm (dz_bi H) (fun q1 H => ?_))
  show mm_Wp X (D + 4) mm_r118 12 [some (.ref 0), some (dz_I a1), some (.ref 55), none, none, none] [] (hz_0 q1) Q
  refine wp_s (i := .aload_n 0) (n := 1) (pc' := 13) (st' := [.ref 0]) rfl rfl ?_
  obtain ⟨k2, H⟩ := dz_ck H
  refine wq_gd (idx := 31) (pc' := 16) rfl rfl ho_O rfl rfl ?_
  refine wq_gi (idx := 120) (pc' := 19) rfl rfl (ho_S k2) rfl rfl ?_
  refine wq_st (k := 3) (i := .istore_n 3) (n := 1) (ls' := [some (.ref 0), some (dz_I a1), some (.ref 55), some (dz_I (q1 ((q1 0 3 0).toNat) 6 0)), none, none]) (pc' := 20) rfl rfl rfl rfl rfl ?_
  refine wp_s (i := .iconst 0) (n := 1) (pc' := 21) (st' := [dz_I 0]) rfl rfl ?_
  refine wq_st (k := 4) (i := .istore 4) (n := 2) (ls' := [some (.ref 0), some (dz_I a1), some (.ref 55), some (dz_I (q1 ((q1 0 3 0).toNat) 6 0)), some (dz_I 0), none]) (pc' := 23) rfl rfl rfl rfl rfl ?_
  refine dz_lpi (P := fun (s3 : Int × dz_Z) => ∀ (u4 : Option Int32), mm_Wp X (D + 4) mm_r118 23 [some (.ref 0), some (dz_I a1), some (.ref 55), some (dz_I (q1 ((q1 0 3 0).toNat) 6 0)), some (dz_I s3.1), Option.map Value.int u4] [] (hz_0 s3.2) Q) (fun s3 H => ?_) 5000 (0, q1) H none
  intro u4
  refine wp_s (i := .iload 4) (n := 2) (pc' := 25) (st' := [dz_I s3.1]) rfl rfl ?_
  refine wp_s (i := .iload_n 3) (n := 1) (pc' := 26) (st' := [dz_I (q1 ((q1 0 3 0).toNat) 6 0), dz_I s3.1]) rfl rfl ?_
  refine wq_ic (p := dz_c (q1 ((q1 0 3 0).toNat) 6 0) ≤ dz_c s3.1) (tt := 78) (pc' := 29) rfl rfl (cq_ge rfl rfl) rfl (fun c5 => ?_) (fun c5 => ?_)
  · replace H := dz_it c5 H
    refine wp_s (i := .iconst 1) (n := 1) (pc' := 79) (st' := [dz_I 1]) rfl rfl ?_
    refine wq_rt rfl rfl ?_
    replace H := dz_out H
    replace H := dz_sm H
    exact H
  · replace H := dz_if c5 H
    refine wp_s (i := .iload_n 1) (n := 1) (pc' := 30) (st' := [dz_I a1]) rfl rfl ?_
    refine wp_s (i := .iconst 2) (n := 1) (pc' := 31) (st' := [dz_I 2, dz_I a1]) rfl rfl ?_
    refine wp_s (i := .iload_n 3) (n := 1) (pc' := 32) (st' := [dz_I (q1 ((q1 0 3 0).toNat) 6 0), dz_I 2, dz_I a1]) rfl rfl ?_
    refine wp_s (i := .iconst 1) (n := 1) (pc' := 33) (st' := [dz_I 1, dz_I (q1 ((q1 0 3 0).toNat) 6 0), dz_I 2, dz_I a1]) rfl rfl ?_
    refine wq_2 (i := .isub) (z := (q1 ((q1 0 3 0).toNat) 6 0) - 1) (pc' := 34) rfl rfl (op_sub _ _) rfl ?_
    refine wp_s (i := .iload 4) (n := 2) (pc' := 36) (st' := [dz_I s3.1, dz_I ((q1 ((q1 0 3 0).toNat) 6 0) - 1), dz_I 2, dz_I a1]) rfl rfl ?_
    refine wq_2 (i := .isub) (z := ((q1 ((q1 0 3 0).toNat) 6 0) - 1) - s3.1) (pc' := 37) rfl rfl (op_sub _ _) rfl ?_
    refine wq_2 (i := .imul) (z := 2 * (((q1 ((q1 0 3 0).toNat) 6 0) - 1) - s3.1)) (pc' := 38) rfl rfl (op_mul _ _) rfl ?_
    refine wq_2 (i := .iushr) (z := dz_ur a1 (2 * (((q1 ((q1 0 3 0).toNat) 6 0) - 1) - s3.1))) (pc' := 39) rfl rfl (op_ushr _ _) rfl ?_
    refine wp_s (i := .iconst 3) (n := 1) (pc' := 40) (st' := [dz_I 3, dz_I (dz_ur a1 (2 * (((q1 ((q1 0 3 0).toNat) 6 0) - 1) - s3.1)))]) rfl rfl ?_
    refine wq_2 (i := .iand) (z := dz_an (dz_ur a1 (2 * (((q1 ((q1 0 3 0).toNat) 6 0) - 1) - s3.1))) 3) (pc' := 41) rfl rfl (op_and _ _) rfl ?_
    refine wq_sa (k := 5) (F := fun x6 => [some (.ref 0), some (dz_I a1), some (.ref 55), some (dz_I (q1 ((q1 0 3 0).toNat) 6 0)), some (dz_I s3.1), some (dz_I x6)]) (i := .istore 5) (n := 2) (pc' := 43) rfl rfl (fun _ => rfl) (fun _ => rfl) rfl (fun x6 ex6 => ?_)
    show mm_Wp _ _ _ 43 [some (.ref 0), some (dz_I a1), some (.ref 55), some (dz_I (q1 ((q1 0 3 0).toNat) 6 0)), some (dz_I s3.1), some (dz_I x6)] [] _ _
    replace H := dz_le H x6 ex6
    clear ex6
    refine wp_s (i := .aload_n 2) (n := 1) (pc' := 44) (st' := [.ref 55]) rfl rfl ?_
    refine wp_s (i := .aload_n 0) (n := 1) (pc' := 45) (st' := [.ref 0, .ref 55]) rfl rfl ?_
    obtain ⟨k7, H⟩ := dz_ck H
    refine wq_gd (idx := 24) (pc' := 48) rfl rfl ho_O rfl rfl ?_
    refine wp_s (i := .aload_n 0) (n := 1) (pc' := 49) (st' := [.ref 0, .ref ((s3.2 0 2 0).toNat), .ref 55]) rfl rfl ?_
    obtain ⟨k8, H⟩ := dz_ck H
    refine wq_gd (idx := 31) (pc' := 52) rfl rfl ho_O rfl rfl ?_
    refine wp_s (i := .iload 5) (n := 2) (pc' := 54) (st' := [dz_I x6, .ref ((s3.2 0 3 0).toNat), .ref ((s3.2 0 2 0).toNat), .ref 55]) rfl rfl ?_
    refine wq_cv (Dq := (D + 3)) (r' := mm_r12) (as0 := [.ref ((s3.2 0 2 0).toNat), .ref ((s3.2 0 3 0).toNat), dz_I x6]) (rest := []) (ls' := [some (.ref 55), some (.ref ((s3.2 0 2 0).toNat)), some (.ref ((s3.2 0 3 0).toNat)), some (dz_I x6), none]) (pc' := 57) rfl rfl rfl rfl (ho_F (Or.inr (Or.inl rfl))) rfl rfl rfl ?_
    refine jw_F_passSecond (X := X) (D := D + 0) 55 (Or.inr (Or.inl rfl)) ((s3.2 0 2 0).toNat) k7 ((s3.2 0 3 0).toNat) k8 x6 s3.2 (dz_pm (dz_bi H) (fun q9 H => ?_))
    show mm_Wp X (D + 4) mm_r118 57 [some (.ref 0), some (dz_I a1), some (.ref 55), some (dz_I (q1 ((q1 0 3 0).toNat) 6 0)), some (dz_I s3.1), some (dz_I x6)] [dz_I q9.1] (hz_0 q9.2) Q
    refine wp_s (i := .aload_n 0) (n := 1) (pc' := 58) (st' := [.ref 0, dz_I q9.1]) rfl rfl ?_
    obtain ⟨k10, H⟩ := dz_ck H
    refine wq_gd (idx := 31) (pc' := 61) rfl rfl ho_O rfl rfl ?_
    refine wq_gr (idx := 251) (a := (q9.2 0 3 0).toNat + 9) (pc' := 64) rfl rfl (ho_S k10) rfl rfl ?_
    refine wp_s (i := .iload 4) (n := 2) (pc' := 66) (st' := [dz_I s3.1, .ref ((q9.2 0 3 0).toNat + 9), dz_I q9.1]) rfl rfl ?_
    obtain ⟨k11, H⟩ := dz_ck H
    refine wq_ia (j' := dz_c s3.1) (pc' := 67) rfl (ha_S_5 k10) rfl k11.1 k11.2 rfl ?_
    refine wq_ic (p := dz_c q9.1 = dz_c (q9.2 ((q9.2 0 3 0).toNat) 5 (dz_c s3.1))) (tt := 72) (pc' := 70) rfl rfl (cq_eq rfl rfl) rfl (fun c12 => ?_) (fun c12 => ?_)
    · replace H := dz_it c12 H
      refine wq_inc (k := 4) (d := 1) (x := s3.1) (ls' := [some (.ref 0), some (dz_I a1), some (.ref 55), some (dz_I (q1 ((q1 0 3 0).toNat) 6 0)), some (dz_I (s3.1 + 1)), some (dz_I x6)]) (pc' := 75) rfl rfl rfl rfl ?_
      refine wp_s (i := .goto (-52)) (n := 3) (pc' := 23) (st' := []) rfl rfl ?_
      replace H := dz_back H
      exact H (some (Int32.ofInt x6))
    · replace H := dz_if c12 H
      refine wp_s (i := .iconst 0) (n := 1) (pc' := 71) (st' := [dz_I 0]) rfl rfl ?_
      refine wq_rf rfl rfl ?_
      replace H := dz_out H
      replace H := dz_sm H
      exact H
-- 91
def jf_O_heard (a1 : Int) (Z : dz_Z) : Option (Int × dz_Z) := if dz_c a1 < 0 then (some ((-1), Z)) else (if dz_c a1 ≤ 1 then (if hz_isS (Z 0 3 0).toNat then if dz_c (Z ((Z 0 3 0).toNat) 6 0) < 1 then (some ((-2), Z)) else (if dz_c (Z ((Z 0 3 0).toNat) 6 0) ≤ 5 then (dz_lp (fun (s6 : Int × Int × Int × dz_Z) => if dz_c (dz_sl 1 (2 * (Z ((Z 0 3 0).toNat) 6 0))) ≤ dz_c s6.2.2.1 then (if dz_c a1 ≠ 0 then (some (Sum.inr (s6.2.1, s6.2.2.2))) else (some (Sum.inr (s6.1, s6.2.2.2)))) else (Option.bind (jf_O_soundsAsTheTune s6.2.2.1 s6.2.2.2) fun q9 => if q9.1 = false then (some (Sum.inl (s6.1, s6.2.1, s6.2.2.1 + 1, q9.2))) else (if dz_c s6.2.1 ≠ (-4) then (some (Sum.inl (s6.1 + 1, s6.2.1, s6.2.2.1 + 1, q9.2))) else (some (Sum.inl (s6.1 + 1, s6.2.2.1, s6.2.2.1 + 1, q9.2)))))) 5000 (0, (-4), 0, Z)) else (some ((-2), Z))) else none) else (some ((-1), Z)))
set_option maxRecDepth 20000 in
theorem jw_O_heard {X : Option (List Int32)} {D : Nat} {Q : Option Value → mm_H → Prop} (a1 : Int) (Z : dz_Z) (H : dz_p (jf_O_heard a1 Z) (fun q => Q (some (dz_I q.1)) (hz_0 q.2))) : mm_Wp X (D + 5) mm_r91 0 [some (.ref 0), some (dz_I a1), none, none, none, none, none] [] (hz_0 Z) Q := by
  unfold jf_O_heard at H
  refine wp_s (i := .iload_n 1) (n := 1) (pc' := 1) (st' := [dz_I a1]) rfl rfl ?_
  refine wq_if (p := dz_c a1 < 0) (tt := 9) (pc' := 4) rfl rfl (cz_lt rfl) rfl (fun c1 => ?_) (fun c1 => ?_)
  · replace H := dz_it c1 H
    refine wp_s (i := .iconst (-1)) (n := 1) (pc' := 10) (st' := [dz_I (-1)]) rfl rfl ?_
    refine wq_ri rfl rfl ?_
    replace H := dz_sm H
    exact H
  · replace H := dz_if c1 H
    refine wp_s (i := .iload_n 1) (n := 1) (pc' := 5) (st' := [dz_I a1]) rfl rfl ?_
    refine wp_s (i := .iconst 1) (n := 1) (pc' := 6) (st' := [dz_I 1, dz_I a1]) rfl rfl ?_
    refine wq_ic (p := dz_c a1 ≤ 1) (tt := 11) (pc' := 9) rfl rfl (cq_le rfl dk_1) rfl (fun c2 => ?_) (fun c2 => ?_)
    · replace H := dz_it c2 H
      refine wp_s (i := .aload_n 0) (n := 1) (pc' := 12) (st' := [.ref 0]) rfl rfl ?_
      obtain ⟨k3, H⟩ := dz_ck H
      refine wq_gd (idx := 31) (pc' := 15) rfl rfl ho_O rfl rfl ?_
      refine wq_gi (idx := 120) (pc' := 18) rfl rfl (ho_S k3) rfl rfl ?_
      refine wq_st (k := 2) (i := .istore_n 2) (n := 1) (ls' := [some (.ref 0), some (dz_I a1), some (dz_I (Z ((Z 0 3 0).toNat) 6 0)), none, none, none, none]) (pc' := 19) rfl rfl rfl rfl rfl ?_
      refine wp_s (i := .iload_n 2) (n := 1) (pc' := 20) (st' := [dz_I (Z ((Z 0 3 0).toNat) 6 0)]) rfl rfl ?_
      refine wp_s (i := .iconst 1) (n := 1) (pc' := 21) (st' := [dz_I 1, dz_I (Z ((Z 0 3 0).toNat) 6 0)]) rfl rfl ?_
      refine wq_ic (p := dz_c (Z ((Z 0 3 0).toNat) 6 0) < 1) (tt := 29) (pc' := 24) rfl rfl (cq_lt rfl dk_1) rfl (fun c4 => ?_) (fun c4 => ?_)
      · replace H := dz_it c4 H
        refine wp_s (i := .bipush (-2)) (n := 2) (pc' := 31) (st' := [dz_I (-2)]) rfl rfl ?_
        refine wq_ri rfl rfl ?_
        replace H := dz_sm H
        exact H
      · replace H := dz_if c4 H
        refine wp_s (i := .iload_n 2) (n := 1) (pc' := 25) (st' := [dz_I (Z ((Z 0 3 0).toNat) 6 0)]) rfl rfl ?_
        refine wp_s (i := .iconst 5) (n := 1) (pc' := 26) (st' := [dz_I 5, dz_I (Z ((Z 0 3 0).toNat) 6 0)]) rfl rfl ?_
        refine wq_ic (p := dz_c (Z ((Z 0 3 0).toNat) 6 0) ≤ 5) (tt := 32) (pc' := 29) rfl rfl (cq_le rfl dk_5) rfl (fun c5 => ?_) (fun c5 => ?_)
        · replace H := dz_it c5 H
          refine wp_s (i := .iconst 0) (n := 1) (pc' := 33) (st' := [dz_I 0]) rfl rfl ?_
          refine wq_st (k := 3) (i := .istore_n 3) (n := 1) (ls' := [some (.ref 0), some (dz_I a1), some (dz_I (Z ((Z 0 3 0).toNat) 6 0)), some (dz_I 0), none, none, none]) (pc' := 34) rfl rfl rfl rfl rfl ?_
          refine wp_s (i := .bipush (-4)) (n := 2) (pc' := 36) (st' := [dz_I (-4)]) rfl rfl ?_
          refine wq_st (k := 4) (i := .istore 4) (n := 2) (ls' := [some (.ref 0), some (dz_I a1), some (dz_I (Z ((Z 0 3 0).toNat) 6 0)), some (dz_I 0), some (dz_I (-4)), none, none]) (pc' := 38) rfl rfl rfl rfl rfl ?_
          refine wp_s (i := .iconst 1) (n := 1) (pc' := 39) (st' := [dz_I 1]) rfl rfl ?_
          refine wp_s (i := .iconst 2) (n := 1) (pc' := 40) (st' := [dz_I 2, dz_I 1]) rfl rfl ?_
          refine wp_s (i := .iload_n 2) (n := 1) (pc' := 41) (st' := [dz_I (Z ((Z 0 3 0).toNat) 6 0), dz_I 2, dz_I 1]) rfl rfl ?_
          refine wq_2 (i := .imul) (z := 2 * (Z ((Z 0 3 0).toNat) 6 0)) (pc' := 42) rfl rfl (op_mul _ _) rfl ?_
          refine wq_2 (i := .ishl) (z := dz_sl 1 (2 * (Z ((Z 0 3 0).toNat) 6 0))) (pc' := 43) rfl rfl (op_shl _ _) rfl ?_
          refine wq_st (k := 5) (i := .istore 5) (n := 2) (ls' := [some (.ref 0), some (dz_I a1), some (dz_I (Z ((Z 0 3 0).toNat) 6 0)), some (dz_I 0), some (dz_I (-4)), some (dz_I (dz_sl 1 (2 * (Z ((Z 0 3 0).toNat) 6 0)))), none]) (pc' := 45) rfl rfl rfl rfl rfl ?_
          refine wp_s (i := .iconst 0) (n := 1) (pc' := 46) (st' := [dz_I 0]) rfl rfl ?_
          refine wq_st (k := 6) (i := .istore 6) (n := 2) (ls' := [some (.ref 0), some (dz_I a1), some (dz_I (Z ((Z 0 3 0).toNat) 6 0)), some (dz_I 0), some (dz_I (-4)), some (dz_I (dz_sl 1 (2 * (Z ((Z 0 3 0).toNat) 6 0)))), some (dz_I 0)]) (pc' := 48) rfl rfl rfl rfl rfl ?_
          refine dz_lpi (P := fun (s6 : Int × Int × Int × dz_Z) => mm_Wp X (D + 5) mm_r91 48 [some (.ref 0), some (dz_I a1), some (dz_I (Z ((Z 0 3 0).toNat) 6 0)), some (dz_I s6.1), some (dz_I s6.2.1), some (dz_I (dz_sl 1 (2 * (Z ((Z 0 3 0).toNat) 6 0)))), some (dz_I s6.2.2.1)] [] (hz_0 s6.2.2.2) Q) (fun s6 H => ?_) 5000 (0, (-4), 0, Z) H
          refine wp_s (i := .iload 6) (n := 2) (pc' := 50) (st' := [dz_I s6.2.2.1]) rfl rfl ?_
          refine wp_s (i := .iload 5) (n := 2) (pc' := 52) (st' := [dz_I (dz_sl 1 (2 * (Z ((Z 0 3 0).toNat) 6 0))), dz_I s6.2.2.1]) rfl rfl ?_
          refine wq_ic (p := dz_c (dz_sl 1 (2 * (Z ((Z 0 3 0).toNat) 6 0))) ≤ dz_c s6.2.2.1) (tt := 89) (pc' := 55) rfl rfl (cq_ge rfl rfl) rfl (fun c7 => ?_) (fun c7 => ?_)
          · replace H := dz_it c7 H
            refine wp_s (i := .iload_n 1) (n := 1) (pc' := 90) (st' := [dz_I a1]) rfl rfl ?_
            refine wq_if (p := dz_c a1 ≠ 0) (tt := 97) (pc' := 93) rfl rfl (cz_ne rfl) rfl (fun c8 => ?_) (fun c8 => ?_)
            · replace H := dz_it c8 H
              refine wp_s (i := .iload 4) (n := 2) (pc' := 99) (st' := [dz_I s6.2.1]) rfl rfl ?_
              refine wq_ri rfl rfl ?_
              replace H := dz_out H
              replace H := dz_sm H
              exact H
            · replace H := dz_if c8 H
              refine wp_s (i := .iload_n 3) (n := 1) (pc' := 94) (st' := [dz_I s6.1]) rfl rfl ?_
              refine wp_s (i := .goto 5) (n := 3) (pc' := 99) (st' := [dz_I s6.1]) rfl rfl ?_
              refine wq_ri rfl rfl ?_
              replace H := dz_out H
              replace H := dz_sm H
              exact H
          · replace H := dz_if c7 H
            refine wp_s (i := .aload_n 0) (n := 1) (pc' := 56) (st' := [.ref 0]) rfl rfl ?_
            refine wp_s (i := .iload 6) (n := 2) (pc' := 58) (st' := [dz_I s6.2.2.1, .ref 0]) rfl rfl ?_
            refine wq_cv (Dq := (D + 4)) (r' := mm_r118) (as0 := [dz_I s6.2.2.1]) (rest := []) (ls' := [some (.ref 0), some (dz_I s6.2.2.1), none, none, none, none]) (pc' := 61) rfl rfl rfl rfl ho_O rfl rfl rfl ?_
            refine jw_O_soundsAsTheTune (X := X) (D := D + 0) s6.2.2.1 s6.2.2.2 (dz_pm (dz_bi H) (fun q9 H => ?_))
            show mm_Wp X (D + 5) mm_r91 61 [some (.ref 0), some (dz_I a1), some (dz_I (Z ((Z 0 3 0).toNat) 6 0)), some (dz_I s6.1), some (dz_I s6.2.1), some (dz_I (dz_sl 1 (2 * (Z ((Z 0 3 0).toNat) 6 0)))), some (dz_I s6.2.2.1)] [dz_B q9.1] (hz_0 q9.2) Q
            refine wq_if (p := q9.1 = false) (tt := 83) (pc' := 64) rfl rfl (cb_eq) rfl (fun c10 => ?_) (fun c10 => ?_)
            · replace H := dz_it c10 H
              refine wq_inc (k := 6) (d := 1) (x := s6.2.2.1) (ls' := [some (.ref 0), some (dz_I a1), some (dz_I (Z ((Z 0 3 0).toNat) 6 0)), some (dz_I s6.1), some (dz_I s6.2.1), some (dz_I (dz_sl 1 (2 * (Z ((Z 0 3 0).toNat) 6 0)))), some (dz_I (s6.2.2.1 + 1))]) (pc' := 86) rfl rfl rfl rfl ?_
              refine wp_s (i := .goto (-38)) (n := 3) (pc' := 48) (st' := []) rfl rfl ?_
              replace H := dz_back H
              exact H
            · replace H := dz_if c10 H
              refine wq_inc (k := 3) (d := 1) (x := s6.1) (ls' := [some (.ref 0), some (dz_I a1), some (dz_I (Z ((Z 0 3 0).toNat) 6 0)), some (dz_I (s6.1 + 1)), some (dz_I s6.2.1), some (dz_I (dz_sl 1 (2 * (Z ((Z 0 3 0).toNat) 6 0)))), some (dz_I s6.2.2.1)]) (pc' := 67) rfl rfl rfl rfl ?_
              refine wp_s (i := .iload 4) (n := 2) (pc' := 69) (st' := [dz_I s6.2.1]) rfl rfl ?_
              refine wp_s (i := .bipush (-4)) (n := 2) (pc' := 71) (st' := [dz_I (-4), dz_I s6.2.1]) rfl rfl ?_
              refine wq_ic (p := dz_c s6.2.1 ≠ (-4)) (tt := 79) (pc' := 74) rfl rfl (cq_ne rfl dk_m4) rfl (fun c11 => ?_) (fun c11 => ?_)
              · replace H := dz_it c11 H
                refine wp_s (i := .iload 4) (n := 2) (pc' := 81) (st' := [dz_I s6.2.1]) rfl rfl ?_
                refine wq_st (k := 4) (i := .istore 4) (n := 2) (ls' := [some (.ref 0), some (dz_I a1), some (dz_I (Z ((Z 0 3 0).toNat) 6 0)), some (dz_I (s6.1 + 1)), some (dz_I s6.2.1), some (dz_I (dz_sl 1 (2 * (Z ((Z 0 3 0).toNat) 6 0)))), some (dz_I s6.2.2.1)]) (pc' := 83) rfl rfl rfl rfl rfl ?_
                refine wq_inc (k := 6) (d := 1) (x := s6.2.2.1) (ls' := [some (.ref 0), some (dz_I a1), some (dz_I (Z ((Z 0 3 0).toNat) 6 0)), some (dz_I (s6.1 + 1)), some (dz_I s6.2.1), some (dz_I (dz_sl 1 (2 * (Z ((Z 0 3 0).toNat) 6 0)))), some (dz_I (s6.2.2.1 + 1))]) (pc' := 86) rfl rfl rfl rfl ?_
                refine wp_s (i := .goto (-38)) (n := 3) (pc' := 48) (st' := []) rfl rfl ?_
                replace H := dz_back H
                exact H
              · replace H := dz_if c11 H
                refine wp_s (i := .iload 6) (n := 2) (pc' := 76) (st' := [dz_I s6.2.2.1]) rfl rfl ?_
                refine wp_s (i := .goto 5) (n := 3) (pc' := 81) (st' := [dz_I s6.2.2.1]) rfl rfl ?_
                refine wq_st (k := 4) (i := .istore 4) (n := 2) (ls' := [some (.ref 0), some (dz_I a1), some (dz_I (Z ((Z 0 3 0).toNat) 6 0)), some (dz_I (s6.1 + 1)), some (dz_I s6.2.2.1), some (dz_I (dz_sl 1 (2 * (Z ((Z 0 3 0).toNat) 6 0)))), some (dz_I s6.2.2.1)]) (pc' := 83) rfl rfl rfl rfl rfl ?_
                refine wq_inc (k := 6) (d := 1) (x := s6.2.2.1) (ls' := [some (.ref 0), some (dz_I a1), some (dz_I (Z ((Z 0 3 0).toNat) 6 0)), some (dz_I (s6.1 + 1)), some (dz_I s6.2.2.1), some (dz_I (dz_sl 1 (2 * (Z ((Z 0 3 0).toNat) 6 0)))), some (dz_I (s6.2.2.1 + 1))]) (pc' := 86) rfl rfl rfl rfl ?_
                refine wp_s (i := .goto (-38)) (n := 3) (pc' := 48) (st' := []) rfl rfl ?_
                replace H := dz_back H
                exact H
        · replace H := dz_if c5 H
          refine wp_s (i := .bipush (-2)) (n := 2) (pc' := 31) (st' := [dz_I (-2)]) rfl rfl ?_
          refine wq_ri rfl rfl ?_
          replace H := dz_sm H
          exact H
    · replace H := dz_if c2 H
      refine wp_s (i := .iconst (-1)) (n := 1) (pc' := 10) (st' := [dz_I (-1)]) rfl rfl ?_
      refine wq_ri rfl rfl ?_
      replace H := dz_sm H
      exact H
-- 92
def jf_O_blocked (a1 : Int) (Z : dz_Z) : Option (Int × dz_Z) := Option.bind (jf_O_isShower a1 Z) fun q1 => if q1 = true then (Option.bind (jf_O_distance a1 Z) fun q3 => Option.bind (α := Int) (if dz_c q3.1 ≠ 0 then (some 0) else (some 32)) (fun (q5 : Int) => dz_lp (fun (s6 : Int × Int × dz_Z) => if hz_isP (s6.2.2 0 2 0).toNat then if dz_c (s6.2.2 ((s6.2.2 0 2 0).toNat) 3 0) ≤ dz_c s6.2.1 then (some (Sum.inr (s6.1, s6.2.2))) else (if hz_isS (s6.2.2 0 3 0).toNat then if 0 ≤ dz_c s6.2.1 ∧ dz_c s6.2.1 < 5 then if dz_c (s6.2.2 ((s6.2.2 0 3 0).toNat) 1 (dz_c s6.2.1)) ≠ 0 then (some (Sum.inl (s6.1, s6.2.1 + 1, s6.2.2))) else (dz_a (dz_u s6.2.2 ((s6.2.2 0 3 0).toNat) 1 (dz_c s6.2.1) 1) fun Z12 => Option.bind (jf_O_distance a1 Z12) fun q13 => Option.bind (α := Int) (if dz_c q13.1 ≠ 0 then (some 0) else (some (dz_sl 1 s6.2.1))) (fun (q15 : Int) => if hz_isS (q13.2 0 3 0).toNat then dz_a (dz_u q13.2 ((q13.2 0 3 0).toNat) 1 (dz_c s6.2.1) 0) fun Z17 => some (Sum.inl (dz_or s6.1 q15, s6.2.1 + 1, Z17)) else none)) else none else none) else none) 5000 (q5, 0, q3.2))) else (some ((-1), Z))
set_option maxRecDepth 20000 in
theorem jw_O_blocked {X : Option (List Int32)} {D : Nat} {Q : Option Value → mm_H → Prop} (a1 : Int) (Z : dz_Z) (H : dz_p (jf_O_blocked a1 Z) (fun q => Q (some (dz_I q.1)) (hz_0 q.2))) : mm_Wp X (D + 6) mm_r92 0 [some (.ref 0), some (dz_I a1), none, none] [] (hz_0 Z) Q := by
  unfold jf_O_blocked at H
  refine wp_s (i := .aload_n 0) (n := 1) (pc' := 1) (st' := [.ref 0]) rfl rfl ?_
  refine wp_s (i := .iload_n 1) (n := 1) (pc' := 2) (st' := [dz_I a1, .ref 0]) rfl rfl ?_
  refine wq_cv (Dq := (D + 5)) (r' := mm_r105) (as0 := [dz_I a1]) (rest := []) (ls' := [some (.ref 0), some (dz_I a1)]) (pc' := 5) rfl rfl rfl rfl ho_O rfl rfl rfl ?_
  refine jw_O_isShower (X := X) (D := D + 5) a1 Z (dz_pm (dz_bi H) (fun q1 H => ?_))
  show mm_Wp X (D + 6) mm_r92 5 [some (.ref 0), some (dz_I a1), none, none] [dz_B q1] (hz_0 Z) Q
  refine wq_if (p := q1 = true) (tt := 10) (pc' := 8) rfl rfl (cb_ne) rfl (fun c2 => ?_) (fun c2 => ?_)
  · replace H := dz_it c2 H
    refine wp_s (i := .aload_n 0) (n := 1) (pc' := 11) (st' := [.ref 0]) rfl rfl ?_
    refine wp_s (i := .iload_n 1) (n := 1) (pc' := 12) (st' := [dz_I a1, .ref 0]) rfl rfl ?_
    refine wq_cv (Dq := (D + 5)) (r' := mm_r115) (as0 := [dz_I a1]) (rest := []) (ls' := [some (.ref 0), some (dz_I a1)]) (pc' := 15) rfl rfl rfl rfl ho_O rfl rfl rfl ?_
    refine jw_O_distance (X := X) (D := D + 0) a1 Z (dz_pm (dz_bi H) (fun q3 H => ?_))
    show mm_Wp X (D + 6) mm_r92 15 [some (.ref 0), some (dz_I a1), none, none] [dz_I q3.1] (hz_0 q3.2) Q
    refine dz_jn (P := fun (q5 : Int) => mm_Wp X (D + 6) mm_r92 24 [some (.ref 0), some (dz_I a1), none, none] [dz_I q5] (hz_0 q3.2) Q) (dz_bi H) (fun q5 H => ?_) (fun H => ?_)
    · skip
      refine wq_st (k := 2) (i := .istore_n 2) (n := 1) (ls' := [some (.ref 0), some (dz_I a1), some (dz_I q5), none]) (pc' := 25) rfl rfl rfl rfl rfl ?_
      refine wp_s (i := .iconst 0) (n := 1) (pc' := 26) (st' := [dz_I 0]) rfl rfl ?_
      refine wq_st (k := 3) (i := .istore_n 3) (n := 1) (ls' := [some (.ref 0), some (dz_I a1), some (dz_I q5), some (dz_I 0)]) (pc' := 27) rfl rfl rfl rfl rfl ?_
      refine dz_lpi (P := fun (s6 : Int × Int × dz_Z) => mm_Wp X (D + 6) mm_r92 27 [some (.ref 0), some (dz_I a1), some (dz_I s6.1), some (dz_I s6.2.1)] [] (hz_0 s6.2.2) Q) (fun s6 H => ?_) 5000 (q5, 0, q3.2) H
      refine wp_s (i := .iload_n 3) (n := 1) (pc' := 28) (st' := [dz_I s6.2.1]) rfl rfl ?_
      refine wp_s (i := .aload_n 0) (n := 1) (pc' := 29) (st' := [.ref 0, dz_I s6.2.1]) rfl rfl ?_
      obtain ⟨k7, H⟩ := dz_ck H
      refine wq_gd (idx := 24) (pc' := 32) rfl rfl ho_O rfl rfl ?_
      refine wq_gi (idx := 111) (pc' := 35) rfl rfl (ho_P k7) rfl rfl ?_
      refine wq_ic (p := dz_c (s6.2.2 ((s6.2.2 0 2 0).toNat) 3 0) ≤ dz_c s6.2.1) (tt := 94) (pc' := 38) rfl rfl (cq_ge rfl rfl) rfl (fun c8 => ?_) (fun c8 => ?_)
      · replace H := dz_it c8 H
        refine wp_s (i := .iload_n 2) (n := 1) (pc' := 95) (st' := [dz_I s6.1]) rfl rfl ?_
        refine wq_ri rfl rfl ?_
        replace H := dz_out H
        replace H := dz_sm H
        exact H
      · replace H := dz_if c8 H
        refine wp_s (i := .aload_n 0) (n := 1) (pc' := 39) (st' := [.ref 0]) rfl rfl ?_
        obtain ⟨k9, H⟩ := dz_ck H
        refine wq_gd (idx := 31) (pc' := 42) rfl rfl ho_O rfl rfl ?_
        refine wq_gr (idx := 143) (a := (s6.2.2 0 3 0).toNat + 2) (pc' := 45) rfl rfl (ho_S k9) rfl rfl ?_
        refine wp_s (i := .iload_n 3) (n := 1) (pc' := 46) (st' := [dz_I s6.2.1, .ref ((s6.2.2 0 3 0).toNat + 2)]) rfl rfl ?_
        obtain ⟨k10, H⟩ := dz_ck H
        refine wq_ia (j' := dz_c s6.2.1) (pc' := 47) rfl (ha_S_1 k9) rfl k10.1 k10.2 rfl ?_
        refine wq_if (p := dz_c (s6.2.2 ((s6.2.2 0 3 0).toNat) 1 (dz_c s6.2.1)) ≠ 0) (tt := 88) (pc' := 50) rfl rfl (cz_ne rfl) rfl (fun c11 => ?_) (fun c11 => ?_)
        · replace H := dz_it c11 H
          refine wq_inc (k := 3) (d := 1) (x := s6.2.1) (ls' := [some (.ref 0), some (dz_I a1), some (dz_I s6.1), some (dz_I (s6.2.1 + 1))]) (pc' := 91) rfl rfl rfl rfl ?_
          refine wp_s (i := .goto (-64)) (n := 3) (pc' := 27) (st' := []) rfl rfl ?_
          replace H := dz_back H
          exact H
        · replace H := dz_if c11 H
          refine wp_s (i := .aload_n 0) (n := 1) (pc' := 51) (st' := [.ref 0]) rfl rfl ?_
          refine wq_gd (idx := 31) (pc' := 54) rfl rfl ho_O rfl rfl ?_
          refine wq_gr (idx := 143) (a := (s6.2.2 0 3 0).toNat + 2) (pc' := 57) rfl rfl (ho_S k9) rfl rfl ?_
          refine wp_s (i := .iload_n 3) (n := 1) (pc' := 58) (st' := [dz_I s6.2.1, .ref ((s6.2.2 0 3 0).toNat + 2)]) rfl rfl ?_
          refine wp_s (i := .iconst 1) (n := 1) (pc' := 59) (st' := [dz_I 1, dz_I s6.2.1, .ref ((s6.2.2 0 3 0).toNat + 2)]) rfl rfl ?_
          refine wq_is (j' := dz_c s6.2.1) (x := 1) (pc' := 60) rfl (ha_S_1 k9) rfl k10.1 k10.2 rfl (fun Z12 eZ12 => ?_)
          replace H := dz_le H Z12 eZ12
          clear eZ12
          refine wp_s (i := .iload_n 2) (n := 1) (pc' := 61) (st' := [dz_I s6.1]) rfl rfl ?_
          refine wp_s (i := .aload_n 0) (n := 1) (pc' := 62) (st' := [.ref 0, dz_I s6.1]) rfl rfl ?_
          refine wp_s (i := .iload_n 1) (n := 1) (pc' := 63) (st' := [dz_I a1, .ref 0, dz_I s6.1]) rfl rfl ?_
          refine wq_cv (Dq := (D + 5)) (r' := mm_r115) (as0 := [dz_I a1]) (rest := [dz_I s6.1]) (ls' := [some (.ref 0), some (dz_I a1)]) (pc' := 66) rfl rfl rfl rfl ho_O rfl rfl rfl ?_
          refine jw_O_distance (X := X) (D := D + 0) a1 Z12 (dz_pm (dz_bi H) (fun q13 H => ?_))
          show mm_Wp X (D + 6) mm_r92 66 [some (.ref 0), some (dz_I a1), some (dz_I s6.1), some (dz_I s6.2.1)] [dz_I q13.1, dz_I s6.1] (hz_0 q13.2) Q
          refine dz_jn (P := fun (q15 : Int) => mm_Wp X (D + 6) mm_r92 76 [some (.ref 0), some (dz_I a1), some (dz_I s6.1), some (dz_I s6.2.1)] [dz_I q15, dz_I s6.1] (hz_0 q13.2) Q) (dz_bi H) (fun q15 H => ?_) (fun H => ?_)
          · skip
            refine wq_2 (i := .ior) (z := dz_or s6.1 q15) (pc' := 77) rfl rfl (op_or _ _) rfl ?_
            refine wq_st (k := 2) (i := .istore_n 2) (n := 1) (ls' := [some (.ref 0), some (dz_I a1), some (dz_I (dz_or s6.1 q15)), some (dz_I s6.2.1)]) (pc' := 78) rfl rfl rfl rfl rfl ?_
            refine wp_s (i := .aload_n 0) (n := 1) (pc' := 79) (st' := [.ref 0]) rfl rfl ?_
            obtain ⟨k16, H⟩ := dz_ck H
            refine wq_gd (idx := 31) (pc' := 82) rfl rfl ho_O rfl rfl ?_
            refine wq_gr (idx := 143) (a := (q13.2 0 3 0).toNat + 2) (pc' := 85) rfl rfl (ho_S k16) rfl rfl ?_
            refine wp_s (i := .iload_n 3) (n := 1) (pc' := 86) (st' := [dz_I s6.2.1, .ref ((q13.2 0 3 0).toNat + 2)]) rfl rfl ?_
            refine wp_s (i := .iconst 0) (n := 1) (pc' := 87) (st' := [dz_I 0, dz_I s6.2.1, .ref ((q13.2 0 3 0).toNat + 2)]) rfl rfl ?_
            refine wq_is (j' := dz_c s6.2.1) (x := 0) (pc' := 88) rfl (ha_S_1 k16) rfl k10.1 k10.2 rfl (fun Z17 eZ17 => ?_)
            replace H := dz_le H Z17 eZ17
            clear eZ17
            refine wq_inc (k := 3) (d := 1) (x := s6.2.1) (ls' := [some (.ref 0), some (dz_I a1), some (dz_I (dz_or s6.1 q15)), some (dz_I (s6.2.1 + 1))]) (pc' := 91) rfl rfl rfl rfl ?_
            refine wp_s (i := .goto (-64)) (n := 3) (pc' := 27) (st' := []) rfl rfl ?_
            replace H := dz_back H
            exact H
          · skip
            refine wq_if (p := dz_c q13.1 ≠ 0) (tt := 75) (pc' := 69) rfl rfl (cz_ne rfl) rfl (fun c18 => ?_) (fun c18 => ?_)
            · replace H := dz_it c18 H
              refine wp_s (i := .iconst 0) (n := 1) (pc' := 76) (st' := [dz_I 0, dz_I s6.1]) rfl rfl ?_
              replace H := dz_sm H
              exact H
            · replace H := dz_if c18 H
              refine wp_s (i := .iconst 1) (n := 1) (pc' := 70) (st' := [dz_I 1, dz_I s6.1]) rfl rfl ?_
              refine wp_s (i := .iload_n 3) (n := 1) (pc' := 71) (st' := [dz_I s6.2.1, dz_I 1, dz_I s6.1]) rfl rfl ?_
              refine wq_2 (i := .ishl) (z := dz_sl 1 s6.2.1) (pc' := 72) rfl rfl (op_shl _ _) rfl ?_
              refine wp_s (i := .goto 4) (n := 3) (pc' := 76) (st' := [dz_I (dz_sl 1 s6.2.1), dz_I s6.1]) rfl rfl ?_
              replace H := dz_sm H
              exact H
    · skip
      refine wq_if (p := dz_c q3.1 ≠ 0) (tt := 23) (pc' := 18) rfl rfl (cz_ne rfl) rfl (fun c19 => ?_) (fun c19 => ?_)
      · replace H := dz_it c19 H
        refine wp_s (i := .iconst 0) (n := 1) (pc' := 24) (st' := [dz_I 0]) rfl rfl ?_
        replace H := dz_sm H
        exact H
      · replace H := dz_if c19 H
        refine wp_s (i := .bipush 32) (n := 2) (pc' := 20) (st' := [dz_I 32]) rfl rfl ?_
        refine wp_s (i := .goto 4) (n := 3) (pc' := 24) (st' := [dz_I 32]) rfl rfl ?_
        replace H := dz_sm H
        exact H
  · replace H := dz_if c2 H
    refine wp_s (i := .iconst (-1)) (n := 1) (pc' := 9) (st' := [dz_I (-1)]) rfl rfl ?_
    refine wq_ri rfl rfl ?_
    replace H := dz_sm H
    exact H
