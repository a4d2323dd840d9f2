section mg_25m08
-- 93
def jf_O_frozen (a1 : Int) (Z : dz_Z) : Option (Int × dz_Z) := Option.bind (jf_O_isShower a1 Z) fun q1 => if q1 = true then (dz_lp (fun (s3 : Int × Int × dz_Z) => if hz_isP (s3.2.2 0 2 0).toNat then if dz_c (s3.2.2 ((s3.2.2 0 2 0).toNat) 6 0) ≤ dz_c s3.2.1 then (some (Sum.inr (s3.1, s3.2.2))) else (if hz_isS (s3.2.2 0 3 0).toNat then if 0 ≤ dz_c s3.2.1 ∧ dz_c s3.2.1 < 8 then if dz_c (s3.2.2 ((s3.2.2 0 3 0).toNat) 2 (dz_c s3.2.1)) = 5 then (some (Sum.inl (s3.1, s3.2.1 + 1, s3.2.2))) else (dz_a (dz_u s3.2.2 ((s3.2.2 0 3 0).toNat) 2 (dz_c s3.2.1) 5) fun Z10 => Option.bind (jf_O_distance a1 Z10) fun q11 => Option.bind (α := Int) (if dz_c q11.1 ≠ 0 then (some 0) else (some (dz_sl 1 s3.2.1))) (fun (q13 : Int) => if hz_isS (q11.2 0 3 0).toNat then dz_a (dz_u q11.2 ((q11.2 0 3 0).toNat) 2 (dz_c s3.2.1) (s3.2.2 ((s3.2.2 0 3 0).toNat) 2 (dz_c s3.2.1))) fun Z15 => some (Sum.inl (dz_or s3.1 q13, s3.2.1 + 1, Z15)) else none)) else none else none) else none) 5000 (0, 0, Z)) else (some ((-1), Z))
set_option maxRecDepth 20000 in
theorem jw_O_frozen {X : Option (List Int32)} {D : Nat} {Q : Option Value → mm_H → Prop} (a1 : Int) (Z : dz_Z) (H : dz_p (jf_O_frozen a1 Z) (fun q => Q (some (dz_I q.1)) (hz_0 q.2))) : mm_Wp X (D + 6) mm_r93 0 [some (.ref 0), some (dz_I a1), none, none, none] [] (hz_0 Z) Q := by
  unfold jf_O_frozen at H
  refine wp_s (i := .aload_n 0) (n := 1) (pc' := 1) (st' := [.ref 0]) rfl rfl ?_
  refine wp_s (i := .iload_n 1) (n := 1) (pc' := 2) (st' := [dz_I a1, .ref 0]) rfl rfl ?_
  refine wq_cv (Dq := (D + 5)) (r' := mm_r105) (as0 := [dz_I a1]) (rest := []) (ls' := [some (.ref 0), some (dz_I a1)]) (pc' := 5) rfl rfl rfl rfl ho_O rfl rfl rfl ?_
  refine jw_O_isShower (X := X) (D := D + 5) a1 Z (dz_pm (dz_bi H) (fun q1 H => ?_))
  show mm_Wp X (D + 6) mm_r93 5 [some (.ref 0), some (dz_I a1), none, none, none] [dz_B q1] (hz_0 Z) Q
  refine wq_if (p := q1 = true) (tt := 10) (pc' := 8) rfl rfl (cb_ne) rfl (fun c2 => ?_) (fun c2 => ?_)
  · replace H := dz_it c2 H
    refine wp_s (i := .iconst 0) (n := 1) (pc' := 11) (st' := [dz_I 0]) rfl rfl ?_
    refine wq_st (k := 2) (i := .istore_n 2) (n := 1) (ls' := [some (.ref 0), some (dz_I a1), some (dz_I 0), none, none]) (pc' := 12) rfl rfl rfl rfl rfl ?_
    refine wp_s (i := .iconst 0) (n := 1) (pc' := 13) (st' := [dz_I 0]) rfl rfl ?_
    refine wq_st (k := 3) (i := .istore_n 3) (n := 1) (ls' := [some (.ref 0), some (dz_I a1), some (dz_I 0), some (dz_I 0), none]) (pc' := 14) rfl rfl rfl rfl rfl ?_
    refine dz_lpi (P := fun (s3 : Int × Int × dz_Z) => ∀ (u4 : Option Int32), mm_Wp X (D + 6) mm_r93 14 [some (.ref 0), some (dz_I a1), some (dz_I s3.1), some (dz_I s3.2.1), Option.map Value.int u4] [] (hz_0 s3.2.2) Q) (fun s3 H => ?_) 5000 (0, 0, Z) H none
    intro u4
    refine wp_s (i := .iload_n 3) (n := 1) (pc' := 15) (st' := [dz_I s3.2.1]) rfl rfl ?_
    refine wp_s (i := .aload_n 0) (n := 1) (pc' := 16) (st' := [.ref 0, dz_I s3.2.1]) rfl rfl ?_
    obtain ⟨k5, H⟩ := dz_ck H
    refine wq_gd (idx := 24) (pc' := 19) rfl rfl ho_O rfl rfl ?_
    refine wq_gi (idx := 114) (pc' := 22) rfl rfl (ho_P k5) rfl rfl ?_
    refine wq_ic (p := dz_c (s3.2.2 ((s3.2.2 0 2 0).toNat) 6 0) ≤ dz_c s3.2.1) (tt := 87) (pc' := 25) rfl rfl (cq_ge rfl rfl) rfl (fun c6 => ?_) (fun c6 => ?_)
    · replace H := dz_it c6 H
      refine wp_s (i := .iload_n 2) (n := 1) (pc' := 88) (st' := [dz_I s3.1]) rfl rfl ?_
      refine wq_ri rfl rfl ?_
      replace H := dz_out H
      replace H := dz_sm H
      exact H
    · replace H := dz_if c6 H
      refine wp_s (i := .aload_n 0) (n := 1) (pc' := 26) (st' := [.ref 0]) rfl rfl ?_
      obtain ⟨k7, H⟩ := dz_ck H
      refine wq_gd (idx := 31) (pc' := 29) rfl rfl ho_O rfl rfl ?_
      refine wq_gr (idx := 149) (a := (s3.2.2 0 3 0).toNat + 3) (pc' := 32) rfl rfl (ho_S k7) rfl rfl ?_
      refine wp_s (i := .iload_n 3) (n := 1) (pc' := 33) (st' := [dz_I s3.2.1, .ref ((s3.2.2 0 3 0).toNat + 3)]) rfl rfl ?_
      obtain ⟨k8, H⟩ := dz_ck H
      refine wq_ia (j' := dz_c s3.2.1) (pc' := 34) rfl (ha_S_2 k7) rfl k8.1 k8.2 rfl ?_
      refine wq_st (k := 4) (i := .istore 4) (n := 2) (ls' := [some (.ref 0), some (dz_I a1), some (dz_I s3.1), some (dz_I s3.2.1), some (dz_I (s3.2.2 ((s3.2.2 0 3 0).toNat) 2 (dz_c s3.2.1)))]) (pc' := 36) rfl rfl rfl rfl rfl ?_
      refine wp_s (i := .iload 4) (n := 2) (pc' := 38) (st' := [dz_I (s3.2.2 ((s3.2.2 0 3 0).toNat) 2 (dz_c s3.2.1))]) rfl rfl ?_
      refine wp_s (i := .iconst 5) (n := 1) (pc' := 39) (st' := [dz_I 5, dz_I (s3.2.2 ((s3.2.2 0 3 0).toNat) 2 (dz_c s3.2.1))]) rfl rfl ?_
      refine wq_ic (p := dz_c (s3.2.2 ((s3.2.2 0 3 0).toNat) 2 (dz_c s3.2.1)) = 5) (tt := 81) (pc' := 42) rfl rfl (cq_eq rfl dk_5) rfl (fun c9 => ?_) (fun c9 => ?_)
      · replace H := dz_it c9 H
        refine wq_inc (k := 3) (d := 1) (x := s3.2.1) (ls' := [some (.ref 0), some (dz_I a1), some (dz_I s3.1), some (dz_I (s3.2.1 + 1)), some (dz_I (s3.2.2 ((s3.2.2 0 3 0).toNat) 2 (dz_c s3.2.1)))]) (pc' := 84) rfl rfl rfl rfl ?_
        refine wp_s (i := .goto (-70)) (n := 3) (pc' := 14) (st' := []) rfl rfl ?_
        replace H := dz_back H
        exact H (some (Int32.ofInt (s3.2.2 ((s3.2.2 0 3 0).toNat) 2 (dz_c s3.2.1))))
      · replace H := dz_if c9 H
        refine wp_s (i := .aload_n 0) (n := 1) (pc' := 43) (st' := [.ref 0]) rfl rfl ?_
        refine wq_gd (idx := 31) (pc' := 46) rfl rfl ho_O rfl rfl ?_
        refine wq_gr (idx := 149) (a := (s3.2.2 0 3 0).toNat + 3) (pc' := 49) rfl rfl (ho_S k7) rfl rfl ?_
        refine wp_s (i := .iload_n 3) (n := 1) (pc' := 50) (st' := [dz_I s3.2.1, .ref ((s3.2.2 0 3 0).toNat + 3)]) rfl rfl ?_
        refine wp_s (i := .iconst 5) (n := 1) (pc' := 51) (st' := [dz_I 5, dz_I s3.2.1, .ref ((s3.2.2 0 3 0).toNat + 3)]) rfl rfl ?_
        refine wq_is (j' := dz_c s3.2.1) (x := 5) (pc' := 52) rfl (ha_S_2 k7) rfl k8.1 k8.2 rfl (fun Z10 eZ10 => ?_)
        replace H := dz_le H Z10 eZ10
        clear eZ10
        refine wp_s (i := .iload_n 2) (n := 1) (pc' := 53) (st' := [dz_I s3.1]) rfl rfl ?_
        refine wp_s (i := .aload_n 0) (n := 1) (pc' := 54) (st' := [.ref 0, dz_I s3.1]) rfl rfl ?_
        refine wp_s (i := .iload_n 1) (n := 1) (pc' := 55) (st' := [dz_I a1, .ref 0, dz_I s3.1]) rfl rfl ?_
        refine wq_cv (Dq := (D + 5)) (r' := mm_r115) (as0 := [dz_I a1]) (rest := [dz_I s3.1]) (ls' := [some (.ref 0), some (dz_I a1)]) (pc' := 58) rfl rfl rfl rfl ho_O rfl rfl rfl ?_
        refine jw_O_distance (X := X) (D := D + 0) a1 Z10 (dz_pm (dz_bi H) (fun q11 H => ?_))
        show mm_Wp X (D + 6) mm_r93 58 [some (.ref 0), some (dz_I a1), some (dz_I s3.1), some (dz_I s3.2.1), some (dz_I (s3.2.2 ((s3.2.2 0 3 0).toNat) 2 (dz_c s3.2.1)))] [dz_I q11.1, dz_I s3.1] (hz_0 q11.2) Q
        refine dz_jn (P := fun (q13 : Int) => mm_Wp X (D + 6) mm_r93 68 [some (.ref 0), some (dz_I a1), some (dz_I s3.1), some (dz_I s3.2.1), some (dz_I (s3.2.2 ((s3.2.2 0 3 0).toNat) 2 (dz_c s3.2.1)))] [dz_I q13, dz_I s3.1] (hz_0 q11.2) Q) (dz_bi H) (fun q13 H => ?_) (fun H => ?_)
        · skip
          refine wq_2 (i := .ior) (z := dz_or s3.1 q13) (pc' := 69) rfl rfl (op_or _ _) rfl ?_
          refine wq_st (k := 2) (i := .istore_n 2) (n := 1) (ls' := [some (.ref 0), some (dz_I a1), some (dz_I (dz_or s3.1 q13)), some (dz_I s3.2.1), some (dz_I (s3.2.2 ((s3.2.2 0 3 0).toNat) 2 (dz_c s3.2.1)))]) (pc' := 70) rfl rfl rfl rfl rfl ?_
          refine wp_s (i := .aload_n 0) (n := 1) (pc' := 71) (st' := [.ref 0]) rfl rfl ?_
          obtain ⟨k14, H⟩ := dz_ck H
          refine wq_gd (idx := 31) (pc' := 74) rfl rfl ho_O rfl rfl ?_
          refine wq_gr (idx := 149) (a := (q11.2 0 3 0).toNat + 3) (pc' := 77) rfl rfl (ho_S k14) rfl rfl ?_
          refine wp_s (i := .iload_n 3) (n := 1) (pc' := 78) (st' := [dz_I s3.2.1, .ref ((q11.2 0 3 0).toNat + 3)]) rfl rfl ?_
          refine wp_s (i := .iload 4) (n := 2) (pc' := 80) (st' := [dz_I (s3.2.2 ((s3.2.2 0 3 0).toNat) 2 (dz_c s3.2.1)), dz_I s3.2.1, .ref ((q11.2 0 3 0).toNat + 3)]) rfl rfl ?_
          refine wq_is (j' := dz_c s3.2.1) (x := s3.2.2 ((s3.2.2 0 3 0).toNat) 2 (dz_c s3.2.1)) (pc' := 81) rfl (ha_S_2 k14) rfl k8.1 k8.2 rfl (fun Z15 eZ15 => ?_)
          replace H := dz_le H Z15 eZ15
          clear eZ15
          refine wq_inc (k := 3) (d := 1) (x := s3.2.1) (ls' := [some (.ref 0), some (dz_I a1), some (dz_I (dz_or s3.1 q13)), some (dz_I (s3.2.1 + 1)), some (dz_I (s3.2.2 ((s3.2.2 0 3 0).toNat) 2 (dz_c s3.2.1)))]) (pc' := 84) rfl rfl rfl rfl ?_
          refine wp_s (i := .goto (-70)) (n := 3) (pc' := 14) (st' := []) rfl rfl ?_
          replace H := dz_back H
          exact H (some (Int32.ofInt (s3.2.2 ((s3.2.2 0 3 0).toNat) 2 (dz_c s3.2.1))))
        · skip
          refine wq_if (p := dz_c q11.1 ≠ 0) (tt := 67) (pc' := 61) rfl rfl (cz_ne rfl) rfl (fun c16 => ?_) (fun c16 => ?_)
          · replace H := dz_it c16 H
            refine wp_s (i := .iconst 0) (n := 1) (pc' := 68) (st' := [dz_I 0, dz_I s3.1]) rfl rfl ?_
            replace H := dz_sm H
            exact H
          · replace H := dz_if c16 H
            refine wp_s (i := .iconst 1) (n := 1) (pc' := 62) (st' := [dz_I 1, dz_I s3.1]) rfl rfl ?_
            refine wp_s (i := .iload_n 3) (n := 1) (pc' := 63) (st' := [dz_I s3.2.1, dz_I 1, dz_I s3.1]) rfl rfl ?_
            refine wq_2 (i := .ishl) (z := dz_sl 1 s3.2.1) (pc' := 64) rfl rfl (op_shl _ _) rfl ?_
            refine wp_s (i := .goto 4) (n := 3) (pc' := 68) (st' := [dz_I (dz_sl 1 s3.2.1), dz_I s3.1]) rfl rfl ?_
            replace H := dz_sm H
            exact H
  · replace H := dz_if c2 H
    refine wp_s (i := .iconst (-1)) (n := 1) (pc' := 9) (st' := [dz_I (-1)]) rfl rfl ?_
    refine wq_ri rfl rfl ?_
    replace H := dz_sm H
    exact H
-- 94
def jf_O_lasts (a1 : Int) (a2 : Int) (Z : dz_Z) : Option (Int × dz_Z) := Option.bind (jf_O_isShower a1 Z) fun q1 => if q1 = false then (some ((-1), Z)) else (Option.bind (jf_O_isSpout a2 Z) fun q3 => if q3 = true then (Option.bind (jf_F_dryUp 55 Z) fun q5 => dz_lp (fun (s6 : Int × dz_Z) => if 99 < dz_c s6.1 then (some (Sum.inr ((-4), s6.2))) else (dz_lp (fun (s9 : Int × dz_Z) => if hz_isS (s9.2 0 3 0).toNat then if 0 ≤ dz_c a1 ∧ dz_c a1 < 3 then if dz_c (s9.2 ((s9.2 0 3 0).toNat) 3 (dz_c a1)) ≤ dz_c s9.1 then (if hz_isP (s9.2 0 2 0).toNat then Option.bind (jf_F_isBroken 55 ((s9.2 0 2 0).toNat) a2 s9.2) fun q14 => if q14 = false then (some (Sum.inr (Sum.inl (s6.1 + 1, s9.2)))) else (some (Sum.inr (Sum.inr (s6.1, s9.2)))) else none) else (if hz_isP (s9.2 0 2 0).toNat then if 0 ≤ dz_c s9.1 ∧ dz_c s9.1 < 12 then Option.bind (jf_F_passSecond 55 ((s9.2 0 2 0).toNat) ((s9.2 0 3 0).toNat) (s9.2 ((s9.2 0 3 0).toNat) (20 + Int.toNat (dz_c a1)) (dz_c s9.1)) s9.2) fun q18 => some (Sum.inl (s9.1 + 1, q18.2)) else none else none) else none else none) 5000 (0, s6.2))) 5000 (1, q5)) else (some ((-1), Z)))
set_option maxRecDepth 20000 in
theorem jw_O_lasts {X : Option (List Int32)} {D : Nat} {Q : Option Value → mm_H → Prop} (a1 : Int) (a2 : Int) (Z : dz_Z) (H : dz_p (jf_O_lasts a1 a2 Z) (fun q => Q (some (dz_I q.1)) (hz_0 q.2))) : mm_Wp X (D + 4) mm_r94 0 [some (.ref 0), some (dz_I a1), some (dz_I a2), none, none, none] [] (hz_0 Z) Q := by
  unfold jf_O_lasts at H
  refine wp_s (i := .aload_n 0) (n := 1) (pc' := 1) (st' := [.ref 0]) rfl rfl ?_
  refine wp_s (i := .iload_n 1) (n := 1) (pc' := 2) (st' := [dz_I a1, .ref 0]) rfl rfl ?_
  refine wq_cv (Dq := (D + 3)) (r' := mm_r105) (as0 := [dz_I a1]) (rest := []) (ls' := [some (.ref 0), some (dz_I a1)]) (pc' := 5) rfl rfl rfl rfl ho_O rfl rfl rfl ?_
  refine jw_O_isShower (X := X) (D := D + 3) a1 Z (dz_pm (dz_bi H) (fun q1 H => ?_))
  show mm_Wp X (D + 4) mm_r94 5 [some (.ref 0), some (dz_I a1), some (dz_I a2), none, none, none] [dz_B q1] (hz_0 Z) Q
  refine wq_if (p := q1 = false) (tt := 16) (pc' := 8) rfl rfl (cb_eq) rfl (fun c2 => ?_) (fun c2 => ?_)
  · replace H := dz_it c2 H
    refine wp_s (i := .iconst (-1)) (n := 1) (pc' := 17) (st' := [dz_I (-1)]) rfl rfl ?_
    refine wq_ri rfl rfl ?_
    replace H := dz_sm H
    exact H
  · replace H := dz_if c2 H
    refine wp_s (i := .aload_n 0) (n := 1) (pc' := 9) (st' := [.ref 0]) rfl rfl ?_
    refine wp_s (i := .iload_n 2) (n := 1) (pc' := 10) (st' := [dz_I a2, .ref 0]) rfl rfl ?_
    refine wq_cv (Dq := (D + 3)) (r' := mm_r104) (as0 := [dz_I a2]) (rest := []) (ls' := [some (.ref 0), some (dz_I a2)]) (pc' := 13) rfl rfl rfl rfl ho_O rfl rfl rfl ?_
    refine jw_O_isSpout (X := X) (D := D + 3) a2 Z (dz_pm (dz_bi H) (fun q3 H => ?_))
    show mm_Wp X (D + 4) mm_r94 13 [some (.ref 0), some (dz_I a1), some (dz_I a2), none, none, none] [dz_B q3] (hz_0 Z) Q
    refine wq_if (p := q3 = true) (tt := 18) (pc' := 16) rfl rfl (cb_ne) rfl (fun c4 => ?_) (fun c4 => ?_)
    · replace H := dz_it c4 H
      refine wp_s (i := .aload_n 0) (n := 1) (pc' := 19) (st' := [.ref 0]) rfl rfl ?_
      refine wq_gr (idx := 45) (a := 54) (pc' := 22) rfl rfl ho_O rfl rfl ?_
      refine wq_gr (idx := 235) (a := 55) (pc' := 25) rfl rfl ho_C rfl rfl ?_
      refine wp_s (i := .astore_n 3) (n := 1) (pc' := 26) (ls' := [some (.ref 0), some (dz_I a1), some (dz_I a2), some (.ref 55), none, none]) (st' := []) rfl rfl ?_
      refine wp_s (i := .aload_n 3) (n := 1) (pc' := 27) (st' := [.ref 55]) rfl rfl ?_
      refine wq_cv (Dq := (D + 3)) (r' := mm_r10) (as0 := []) (rest := []) (ls' := [some (.ref 55)]) (pc' := 30) rfl rfl rfl rfl (ho_F (Or.inr (Or.inl rfl))) rfl rfl rfl ?_
      refine jw_F_dryUp (X := X) (D := D + 2) 55 (Or.inr (Or.inl rfl)) Z (dz_pm (dz_bi H) (fun q5 H => ?_))
      show mm_Wp X (D + 4) mm_r94 30 [some (.ref 0), some (dz_I a1), some (dz_I a2), some (.ref 55), none, none] [] (hz_0 q5) Q
      refine wp_s (i := .iconst 1) (n := 1) (pc' := 31) (st' := [dz_I 1]) rfl rfl ?_
      refine wq_st (k := 4) (i := .istore 4) (n := 2) (ls' := [some (.ref 0), some (dz_I a1), some (dz_I a2), some (.ref 55), some (dz_I 1), none]) (pc' := 33) rfl rfl rfl rfl rfl ?_
      refine dz_lpi (P := fun (s6 : Int × dz_Z) => ∀ (u7 : Option Int32), mm_Wp X (D + 4) mm_r94 33 [some (.ref 0), some (dz_I a1), some (dz_I a2), some (.ref 55), some (dz_I s6.1), Option.map Value.int u7] [] (hz_0 s6.2) Q) (fun s6 H => ?_) 5000 (1, q5) H none
      intro u7
      refine wp_s (i := .iload 4) (n := 2) (pc' := 35) (st' := [dz_I s6.1]) rfl rfl ?_
      refine wp_s (i := .bipush 99) (n := 2) (pc' := 37) (st' := [dz_I 99, dz_I s6.1]) rfl rfl ?_
      refine wq_ic (p := 99 < dz_c s6.1) (tt := 109) (pc' := 40) rfl rfl (cq_gt rfl dk_99) rfl (fun c8 => ?_) (fun c8 => ?_)
      · replace H := dz_it c8 H
        refine wp_s (i := .bipush (-4)) (n := 2) (pc' := 111) (st' := [dz_I (-4)]) rfl rfl ?_
        refine wq_ri rfl rfl ?_
        replace H := dz_out H
        replace H := dz_sm H
        exact H
      · replace H := dz_if c8 H
        refine wp_s (i := .iconst 0) (n := 1) (pc' := 41) (st' := [dz_I 0]) rfl rfl ?_
        refine wq_st (k := 5) (i := .istore 5) (n := 2) (ls' := [some (.ref 0), some (dz_I a1), some (dz_I a2), some (.ref 55), some (dz_I s6.1), some (dz_I 0)]) (pc' := 43) rfl rfl rfl rfl rfl ?_
        refine dz_lpi (P := fun (s9 : Int × dz_Z) => mm_Wp X (D + 4) mm_r94 43 [some (.ref 0), some (dz_I a1), some (dz_I a2), some (.ref 55), some (dz_I s6.1), some (dz_I s9.1)] [] (hz_0 s9.2) Q) (fun s9 H => ?_) 5000 (0, s6.2) H
        refine wp_s (i := .iload 5) (n := 2) (pc' := 45) (st' := [dz_I s9.1]) rfl rfl ?_
        refine wp_s (i := .aload_n 0) (n := 1) (pc' := 46) (st' := [.ref 0, dz_I s9.1]) rfl rfl ?_
        obtain ⟨k10, H⟩ := dz_ck H
        refine wq_gd (idx := 31) (pc' := 49) rfl rfl ho_O rfl rfl ?_
        refine wq_gr (idx := 223) (a := (s9.2 0 3 0).toNat + 4) (pc' := 52) rfl rfl (ho_S k10) rfl rfl ?_
        refine wp_s (i := .iload_n 1) (n := 1) (pc' := 53) (st' := [dz_I a1, .ref ((s9.2 0 3 0).toNat + 4), dz_I s9.1]) rfl rfl ?_
        obtain ⟨k11, H⟩ := dz_ck H
        refine wq_ia (j' := dz_c a1) (pc' := 54) rfl (ha_S_3 k10) rfl k11.1 k11.2 rfl ?_
        refine wq_ic (p := dz_c (s9.2 ((s9.2 0 3 0).toNat) 3 (dz_c a1)) ≤ dz_c s9.1) (tt := 88) (pc' := 57) rfl rfl (cq_ge rfl rfl) rfl (fun c12 => ?_) (fun c12 => ?_)
        · replace H := dz_it c12 H
          refine wp_s (i := .aload_n 3) (n := 1) (pc' := 89) (st' := [.ref 55]) rfl rfl ?_
          refine wp_s (i := .aload_n 0) (n := 1) (pc' := 90) (st' := [.ref 0, .ref 55]) rfl rfl ?_
          obtain ⟨k13, H⟩ := dz_ck H
          refine wq_gd (idx := 24) (pc' := 93) rfl rfl ho_O rfl rfl ?_
          refine wp_s (i := .iload_n 2) (n := 1) (pc' := 94) (st' := [dz_I a2, .ref ((s9.2 0 2 0).toNat), .ref 55]) rfl rfl ?_
          refine wq_cv (Dq := (D + 3)) (r' := mm_r23) (as0 := [.ref ((s9.2 0 2 0).toNat), dz_I a2]) (rest := []) (ls' := [some (.ref 55), some (.ref ((s9.2 0 2 0).toNat)), some (dz_I a2)]) (pc' := 97) rfl rfl rfl rfl (ho_F (Or.inr (Or.inl rfl))) rfl rfl rfl ?_
          refine jw_F_isBroken (X := X) (D := D + 3) 55 (Or.inr (Or.inl rfl)) ((s9.2 0 2 0).toNat) k13 a2 s9.2 (dz_pm (dz_bi H) (fun q14 H => ?_))
          show mm_Wp X (D + 4) mm_r94 97 [some (.ref 0), some (dz_I a1), some (dz_I a2), some (.ref 55), some (dz_I s6.1), some (dz_I s9.1)] [dz_B q14] (hz_0 s9.2) Q
          refine wq_if (p := q14 = false) (tt := 103) (pc' := 100) rfl rfl (cb_eq) rfl (fun c15 => ?_) (fun c15 => ?_)
          · replace H := dz_it c15 H
            refine wq_inc (k := 4) (d := 1) (x := s6.1) (ls' := [some (.ref 0), some (dz_I a1), some (dz_I a2), some (.ref 55), some (dz_I (s6.1 + 1)), some (dz_I s9.1)]) (pc' := 106) rfl rfl rfl rfl ?_
            refine wp_s (i := .goto (-73)) (n := 3) (pc' := 33) (st' := []) rfl rfl ?_
            replace H := dz_out H
            replace H := dz_back H
            exact H (some (Int32.ofInt s9.1))
          · replace H := dz_if c15 H
            refine wp_s (i := .iload 4) (n := 2) (pc' := 102) (st' := [dz_I s6.1]) rfl rfl ?_
            refine wq_ri rfl rfl ?_
            replace H := dz_out H
            replace H := dz_out H
            replace H := dz_sm H
            exact H
        · replace H := dz_if c12 H
          refine wp_s (i := .aload_n 3) (n := 1) (pc' := 58) (st' := [.ref 55]) rfl rfl ?_
          refine wp_s (i := .aload_n 0) (n := 1) (pc' := 59) (st' := [.ref 0, .ref 55]) rfl rfl ?_
          obtain ⟨k16, H⟩ := dz_ck H
          refine wq_gd (idx := 24) (pc' := 62) rfl rfl ho_O rfl rfl ?_
          refine wp_s (i := .aload_n 0) (n := 1) (pc' := 63) (st' := [.ref 0, .ref ((s9.2 0 2 0).toNat), .ref 55]) rfl rfl ?_
          refine wq_gd (idx := 31) (pc' := 66) rfl rfl ho_O rfl rfl ?_
          refine wp_s (i := .aload_n 0) (n := 1) (pc' := 67) (st' := [.ref 0, .ref ((s9.2 0 3 0).toNat), .ref ((s9.2 0 2 0).toNat), .ref 55]) rfl rfl ?_
          refine wq_gd (idx := 31) (pc' := 70) rfl rfl ho_O rfl rfl ?_
          refine wq_gr (idx := 226) (a := (s9.2 0 3 0).toNat + 5) (pc' := 73) rfl rfl (ho_S k10) rfl rfl ?_
          refine wp_s (i := .iload_n 1) (n := 1) (pc' := 74) (st' := [dz_I a1, .ref ((s9.2 0 3 0).toNat + 5), .ref ((s9.2 0 3 0).toNat), .ref ((s9.2 0 2 0).toNat), .ref 55]) rfl rfl ?_
          refine wq_aa (j' := dz_c a1) (a := (s9.2 0 3 0).toNat + 6 + Int.toNat (dz_c a1)) (pc' := 75) rfl (by decide) (ha_S_4 k10) rfl k11.1 k11.2 (hr_S k11.1 k11.2) rfl ?_
          refine wp_s (i := .iload 5) (n := 2) (pc' := 77) (st' := [dz_I s9.1, .ref ((s9.2 0 3 0).toNat + 6 + Int.toNat (dz_c a1)), .ref ((s9.2 0 3 0).toNat), .ref ((s9.2 0 2 0).toNat), .ref 55]) rfl rfl ?_
          obtain ⟨k17, H⟩ := dz_ck H
          refine wq_ia (j' := dz_c s9.1) (pc' := 78) rfl (ha_Sr k10 k11.1 k11.2) rfl k17.1 k17.2 rfl ?_
          refine wq_cv (Dq := (D + 3)) (r' := mm_r12) (as0 := [.ref ((s9.2 0 2 0).toNat), .ref ((s9.2 0 3 0).toNat), dz_I (s9.2 ((s9.2 0 3 0).toNat) (20 + Int.toNat (dz_c a1)) (dz_c s9.1))]) (rest := []) (ls' := [some (.ref 55), some (.ref ((s9.2 0 2 0).toNat)), some (.ref ((s9.2 0 3 0).toNat)), some (dz_I (s9.2 ((s9.2 0 3 0).toNat) (20 + Int.toNat (dz_c a1)) (dz_c s9.1))), none]) (pc' := 81) rfl rfl rfl rfl (ho_F (Or.inr (Or.inl rfl))) rfl rfl rfl ?_
          refine jw_F_passSecond (X := X) (D := D + 0) 55 (Or.inr (Or.inl rfl)) ((s9.2 0 2 0).toNat) k16 ((s9.2 0 3 0).toNat) k10 (s9.2 ((s9.2 0 3 0).toNat) (20 + Int.toNat (dz_c a1)) (dz_c s9.1)) s9.2 (dz_pm (dz_bi H) (fun q18 H => ?_))
          show mm_Wp X (D + 4) mm_r94 81 [some (.ref 0), some (dz_I a1), some (dz_I a2), some (.ref 55), some (dz_I s6.1), some (dz_I s9.1)] [dz_I q18.1] (hz_0 q18.2) Q
          refine wp_s (i := .pop) (n := 1) (pc' := 82) (st' := []) rfl rfl ?_
          refine wq_inc (k := 5) (d := 1) (x := s9.1) (ls' := [some (.ref 0), some (dz_I a1), some (dz_I a2), some (.ref 55), some (dz_I s6.1), some (dz_I (s9.1 + 1))]) (pc' := 85) rfl rfl rfl rfl ?_
          refine wp_s (i := .goto (-42)) (n := 3) (pc' := 43) (st' := []) rfl rfl ?_
          replace H := dz_back H
          exact H
    · replace H := dz_if c4 H
      refine wp_s (i := .iconst (-1)) (n := 1) (pc' := 17) (st' := [dz_I (-1)]) rfl rfl ?_
      refine wq_ri rfl rfl ?_
      replace H := dz_sm H
      exact H
-- 95
def jf_O_draws (a1 : Int) (a2 : Int) (a3 : Int) (a4 : Int) (Z : dz_Z) : Option (Int × dz_Z) := Option.bind (jf_O_isShower a1 Z) fun q1 => if q1 = false then (some ((-1), Z)) else (if dz_c a2 < 1 then (some ((-1), Z)) else (if 12 < dz_c a2 then (some ((-1), Z)) else (if dz_c a3 < 1 then (some ((-1), Z)) else (if dz_c a3 ≤ 10 then (dz_lp (fun (s7 : Int × Int × Int × dz_Z) => if dz_c a2 ≤ dz_c s7.2.2.1 then (if hz_isS (s7.2.2.2 0 3 0).toNat then if 0 ≤ dz_c a1 ∧ dz_c a1 < 3 then dz_a (dz_u s7.2.2.2 ((s7.2.2.2 0 3 0).toNat) 3 (dz_c a1) a2) fun Z12 => some (Sum.inr (s7.2.1, Z12)) else none else none) else (if dz_c a3 ≠ 0 then dz_a (Int.tmod (dz_c (dz_an (dz_ur ((s7.1 * 1103515245) + 12345) 16) 32767)) (dz_c a3)) fun x14 => if hz_isS (s7.2.2.2 0 3 0).toNat then if 0 ≤ dz_c a1 ∧ dz_c a1 < 3 then if 0 ≤ dz_c s7.2.2.1 ∧ dz_c s7.2.2.1 < 12 then dz_a (dz_u s7.2.2.2 ((s7.2.2.2 0 3 0).toNat) (20 + Int.toNat (dz_c a1)) (dz_c s7.2.2.1) x14) fun Z18 => some (Sum.inl ((s7.1 * 1103515245) + 12345, s7.2.1 + x14, s7.2.2.1 + 1, Z18)) else none else none else none else none)) 5000 (a4, 0, 0, Z)) else (some ((-1), Z))))))
set_option maxRecDepth 20000 in
theorem jw_O_draws {X : Option (List Int32)} {D : Nat} {Q : Option Value → mm_H → Prop} (a1 : Int) (a2 : Int) (a3 : Int) (a4 : Int) (Z : dz_Z) (H : dz_p (jf_O_draws a1 a2 a3 a4 Z) (fun q => Q (some (dz_I q.1)) (hz_0 q.2))) : mm_Wp X (D + 1) mm_r95 0 [some (.ref 0), some (dz_I a1), some (dz_I a2), some (dz_I a3), some (dz_I a4), none, none, none, none] [] (hz_0 Z) Q := by
  unfold jf_O_draws at H
  refine wp_s (i := .aload_n 0) (n := 1) (pc' := 1) (st' := [.ref 0]) rfl rfl ?_
  refine wp_s (i := .iload_n 1) (n := 1) (pc' := 2) (st' := [dz_I a1, .ref 0]) rfl rfl ?_
  refine wq_cv (Dq := D) (r' := mm_r105) (as0 := [dz_I a1]) (rest := []) (ls' := [some (.ref 0), some (dz_I a1)]) (pc' := 5) rfl rfl rfl rfl ho_O rfl rfl rfl ?_
  refine jw_O_isShower (X := X) (D := D + 0) a1 Z (dz_pm (dz_bi H) (fun q1 H => ?_))
  show mm_Wp X (D + 1) mm_r95 5 [some (.ref 0), some (dz_I a1), some (dz_I a2), some (dz_I a3), some (dz_I a4), none, none, none, none] [dz_B q1] (hz_0 Z) Q
  refine wq_if (p := q1 = false) (tt := 30) (pc' := 8) rfl rfl (cb_eq) rfl (fun c2 => ?_) (fun c2 => ?_)
  · replace H := dz_it c2 H
    refine wp_s (i := .iconst (-1)) (n := 1) (pc' := 31) (st' := [dz_I (-1)]) rfl rfl ?_
    refine wq_ri rfl rfl ?_
    replace H := dz_sm H
    exact H
  · replace H := dz_if c2 H
    refine wp_s (i := .iload_n 2) (n := 1) (pc' := 9) (st' := [dz_I a2]) rfl rfl ?_
    refine wp_s (i := .iconst 1) (n := 1) (pc' := 10) (st' := [dz_I 1, dz_I a2]) rfl rfl ?_
    refine wq_ic (p := dz_c a2 < 1) (tt := 30) (pc' := 13) rfl rfl (cq_lt rfl dk_1) rfl (fun c3 => ?_) (fun c3 => ?_)
    · replace H := dz_it c3 H
      refine wp_s (i := .iconst (-1)) (n := 1) (pc' := 31) (st' := [dz_I (-1)]) rfl rfl ?_
      refine wq_ri rfl rfl ?_
      replace H := dz_sm H
      exact H
    · replace H := dz_if c3 H
      refine wp_s (i := .iload_n 2) (n := 1) (pc' := 14) (st' := [dz_I a2]) rfl rfl ?_
      refine wp_s (i := .bipush 12) (n := 2) (pc' := 16) (st' := [dz_I 12, dz_I a2]) rfl rfl ?_
      refine wq_ic (p := 12 < dz_c a2) (tt := 30) (pc' := 19) rfl rfl (cq_gt rfl dk_12) rfl (fun c4 => ?_) (fun c4 => ?_)
      · replace H := dz_it c4 H
        refine wp_s (i := .iconst (-1)) (n := 1) (pc' := 31) (st' := [dz_I (-1)]) rfl rfl ?_
        refine wq_ri rfl rfl ?_
        replace H := dz_sm H
        exact H
      · replace H := dz_if c4 H
        refine wp_s (i := .iload_n 3) (n := 1) (pc' := 20) (st' := [dz_I a3]) rfl rfl ?_
        refine wp_s (i := .iconst 1) (n := 1) (pc' := 21) (st' := [dz_I 1, dz_I a3]) rfl rfl ?_
        refine wq_ic (p := dz_c a3 < 1) (tt := 30) (pc' := 24) rfl rfl (cq_lt rfl dk_1) rfl (fun c5 => ?_) (fun c5 => ?_)
        · replace H := dz_it c5 H
          refine wp_s (i := .iconst (-1)) (n := 1) (pc' := 31) (st' := [dz_I (-1)]) rfl rfl ?_
          refine wq_ri rfl rfl ?_
          replace H := dz_sm H
          exact H
        · replace H := dz_if c5 H
          refine wp_s (i := .iload_n 3) (n := 1) (pc' := 25) (st' := [dz_I a3]) rfl rfl ?_
          refine wp_s (i := .bipush 10) (n := 2) (pc' := 27) (st' := [dz_I 10, dz_I a3]) rfl rfl ?_
          refine wq_ic (p := dz_c a3 ≤ 10) (tt := 32) (pc' := 30) rfl rfl (cq_le rfl dk_10) rfl (fun c6 => ?_) (fun c6 => ?_)
          · replace H := dz_it c6 H
            refine wp_s (i := .iload 4) (n := 2) (pc' := 34) (st' := [dz_I a4]) rfl rfl ?_
            refine wq_st (k := 5) (i := .istore 5) (n := 2) (ls' := [some (.ref 0), some (dz_I a1), some (dz_I a2), some (dz_I a3), some (dz_I a4), some (dz_I a4), none, none, none]) (pc' := 36) rfl rfl rfl rfl rfl ?_
            refine wp_s (i := .iconst 0) (n := 1) (pc' := 37) (st' := [dz_I 0]) rfl rfl ?_
            refine wq_st (k := 6) (i := .istore 6) (n := 2) (ls' := [some (.ref 0), some (dz_I a1), some (dz_I a2), some (dz_I a3), some (dz_I a4), some (dz_I a4), some (dz_I 0), none, none]) (pc' := 39) rfl rfl rfl rfl rfl ?_
            refine wp_s (i := .iconst 0) (n := 1) (pc' := 40) (st' := [dz_I 0]) rfl rfl ?_
            refine wq_st (k := 7) (i := .istore 7) (n := 2) (ls' := [some (.ref 0), some (dz_I a1), some (dz_I a2), some (dz_I a3), some (dz_I a4), some (dz_I a4), some (dz_I 0), some (dz_I 0), none]) (pc' := 42) rfl rfl rfl rfl rfl ?_
            refine dz_lpi (P := fun (s7 : Int × Int × Int × dz_Z) => ∀ (u8 : Option Int32), mm_Wp X (D + 1) mm_r95 42 [some (.ref 0), some (dz_I a1), some (dz_I a2), some (dz_I a3), some (dz_I a4), some (dz_I s7.1), some (dz_I s7.2.1), some (dz_I s7.2.2.1), Option.map Value.int u8] [] (hz_0 s7.2.2.2) Q) (fun s7 H => ?_) 5000 (a4, 0, 0, Z) H none
            intro u8
            refine wp_s (i := .iload 7) (n := 2) (pc' := 44) (st' := [dz_I s7.2.2.1]) rfl rfl ?_
            refine wp_s (i := .iload_n 2) (n := 1) (pc' := 45) (st' := [dz_I a2, dz_I s7.2.2.1]) rfl rfl ?_
            refine wq_ic (p := dz_c a2 ≤ dz_c s7.2.2.1) (tt := 100) (pc' := 48) rfl rfl (cq_ge rfl rfl) rfl (fun c9 => ?_) (fun c9 => ?_)
            · replace H := dz_it c9 H
              refine wp_s (i := .aload_n 0) (n := 1) (pc' := 101) (st' := [.ref 0]) rfl rfl ?_
              obtain ⟨k10, H⟩ := dz_ck H
              refine wq_gd (idx := 31) (pc' := 104) rfl rfl ho_O rfl rfl ?_
              refine wq_gr (idx := 223) (a := (s7.2.2.2 0 3 0).toNat + 4) (pc' := 107) rfl rfl (ho_S k10) rfl rfl ?_
              refine wp_s (i := .iload_n 1) (n := 1) (pc' := 108) (st' := [dz_I a1, .ref ((s7.2.2.2 0 3 0).toNat + 4)]) rfl rfl ?_
              refine wp_s (i := .iload_n 2) (n := 1) (pc' := 109) (st' := [dz_I a2, dz_I a1, .ref ((s7.2.2.2 0 3 0).toNat + 4)]) rfl rfl ?_
              obtain ⟨k11, H⟩ := dz_ck H
              refine wq_is (j' := dz_c a1) (x := a2) (pc' := 110) rfl (ha_S_3 k10) rfl k11.1 k11.2 rfl (fun Z12 eZ12 => ?_)
              replace H := dz_le H Z12 eZ12
              clear eZ12
              refine wp_s (i := .iload 6) (n := 2) (pc' := 112) (st' := [dz_I s7.2.1]) rfl rfl ?_
              refine wq_ri rfl rfl ?_
              replace H := dz_out H
              replace H := dz_sm H
              exact H
            · replace H := dz_if c9 H
              refine wp_s (i := .iload 5) (n := 2) (pc' := 50) (st' := [dz_I s7.1]) rfl rfl ?_
              refine wp_s (i := .ldc_w 288) (n := 3) (pc' := 53) (st' := [dz_I 1103515245, dz_I s7.1]) rfl rfl ?_
              refine wq_2 (i := .imul) (z := s7.1 * 1103515245) (pc' := 54) rfl rfl (op_mul _ _) rfl ?_
              refine wp_s (i := .sipush 12345) (n := 3) (pc' := 57) (st' := [dz_I 12345, dz_I (s7.1 * 1103515245)]) rfl rfl ?_
              refine wq_2 (i := .iadd) (z := (s7.1 * 1103515245) + 12345) (pc' := 58) rfl rfl (op_add _ _) rfl ?_
              refine wq_st (k := 5) (i := .istore 5) (n := 2) (ls' := [some (.ref 0), some (dz_I a1), some (dz_I a2), some (dz_I a3), some (dz_I a4), some (dz_I ((s7.1 * 1103515245) + 12345)), some (dz_I s7.2.1), some (dz_I s7.2.2.1), Option.map Value.int u8]) (pc' := 60) rfl rfl rfl rfl rfl ?_
              refine wp_s (i := .iload 5) (n := 2) (pc' := 62) (st' := [dz_I ((s7.1 * 1103515245) + 12345)]) rfl rfl ?_
              refine wp_s (i := .bipush 16) (n := 2) (pc' := 64) (st' := [dz_I 16, dz_I ((s7.1 * 1103515245) + 12345)]) rfl rfl ?_
              refine wq_2 (i := .iushr) (z := dz_ur ((s7.1 * 1103515245) + 12345) 16) (pc' := 65) rfl rfl (op_ushr _ _) rfl ?_
              refine wp_s (i := .sipush 32767) (n := 3) (pc' := 68) (st' := [dz_I 32767, dz_I (dz_ur ((s7.1 * 1103515245) + 12345) 16)]) rfl rfl ?_
              refine wq_2 (i := .iand) (z := dz_an (dz_ur ((s7.1 * 1103515245) + 12345) 16) 32767) (pc' := 69) rfl rfl (op_and _ _) rfl ?_
              refine wp_s (i := .iload_n 3) (n := 1) (pc' := 70) (st' := [dz_I a3, dz_I (dz_an (dz_ur ((s7.1 * 1103515245) + 12345) 16) 32767)]) rfl rfl ?_
              obtain ⟨k13, H⟩ := dz_ck H
              refine wq_2 (i := .irem) (z := Int.tmod (dz_c (dz_an (dz_ur ((s7.1 * 1103515245) + 12345) 16) 32767)) (dz_c a3)) (pc' := 71) rfl rfl (op_rem rfl rfl k13) rfl ?_
              refine wq_sa (k := 8) (F := fun x14 => [some (.ref 0), some (dz_I a1), some (dz_I a2), some (dz_I a3), some (dz_I a4), some (dz_I ((s7.1 * 1103515245) + 12345)), some (dz_I s7.2.1), some (dz_I s7.2.2.1), some (dz_I x14)]) (i := .istore 8) (n := 2) (pc' := 73) rfl rfl (fun _ => rfl) (fun _ => rfl) rfl (fun x14 ex14 => ?_)
              show mm_Wp _ _ _ 73 [some (.ref 0), some (dz_I a1), some (dz_I a2), some (dz_I a3), some (dz_I a4), some (dz_I ((s7.1 * 1103515245) + 12345)), some (dz_I s7.2.1), some (dz_I s7.2.2.1), some (dz_I x14)] [] _ _
              replace H := dz_le H x14 ex14
              clear ex14
              refine wp_s (i := .aload_n 0) (n := 1) (pc' := 74) (st' := [.ref 0]) rfl rfl ?_
              obtain ⟨k15, H⟩ := dz_ck H
              refine wq_gd (idx := 31) (pc' := 77) rfl rfl ho_O rfl rfl ?_
              refine wq_gr (idx := 226) (a := (s7.2.2.2 0 3 0).toNat + 5) (pc' := 80) rfl rfl (ho_S k15) rfl rfl ?_
              refine wp_s (i := .iload_n 1) (n := 1) (pc' := 81) (st' := [dz_I a1, .ref ((s7.2.2.2 0 3 0).toNat + 5)]) rfl rfl ?_
              obtain ⟨k16, H⟩ := dz_ck H
              refine wq_aa (j' := dz_c a1) (a := (s7.2.2.2 0 3 0).toNat + 6 + Int.toNat (dz_c a1)) (pc' := 82) rfl (by decide) (ha_S_4 k15) rfl k16.1 k16.2 (hr_S k16.1 k16.2) rfl ?_
              refine wp_s (i := .iload 7) (n := 2) (pc' := 84) (st' := [dz_I s7.2.2.1, .ref ((s7.2.2.2 0 3 0).toNat + 6 + Int.toNat (dz_c a1))]) rfl rfl ?_
              refine wp_s (i := .iload 8) (n := 2) (pc' := 86) (st' := [dz_I x14, dz_I s7.2.2.1, .ref ((s7.2.2.2 0 3 0).toNat + 6 + Int.toNat (dz_c a1))]) rfl rfl ?_
              obtain ⟨k17, H⟩ := dz_ck H
              refine wq_is (j' := dz_c s7.2.2.1) (x := x14) (pc' := 87) rfl (ha_Sr k15 k16.1 k16.2) rfl k17.1 k17.2 rfl (fun Z18 eZ18 => ?_)
              replace H := dz_le H Z18 eZ18
              clear eZ18
              refine wp_s (i := .iload 6) (n := 2) (pc' := 89) (st' := [dz_I s7.2.1]) rfl rfl ?_
              refine wp_s (i := .iload 8) (n := 2) (pc' := 91) (st' := [dz_I x14, dz_I s7.2.1]) rfl rfl ?_
              refine wq_2 (i := .iadd) (z := s7.2.1 + x14) (pc' := 92) rfl rfl (op_add _ _) rfl ?_
              refine wq_st (k := 6) (i := .istore 6) (n := 2) (ls' := [some (.ref 0), some (dz_I a1), some (dz_I a2), some (dz_I a3), some (dz_I a4), some (dz_I ((s7.1 * 1103515245) + 12345)), some (dz_I (s7.2.1 + x14)), some (dz_I s7.2.2.1), some (dz_I x14)]) (pc' := 94) rfl rfl rfl rfl rfl ?_
              refine wq_inc (k := 7) (d := 1) (x := s7.2.2.1) (ls' := [some (.ref 0), some (dz_I a1), some (dz_I a2), some (dz_I a3), some (dz_I a4), some (dz_I ((s7.1 * 1103515245) + 12345)), some (dz_I (s7.2.1 + x14)), some (dz_I (s7.2.2.1 + 1)), some (dz_I x14)]) (pc' := 97) rfl rfl rfl rfl ?_
              refine wp_s (i := .goto (-55)) (n := 3) (pc' := 42) (st' := []) rfl rfl ?_
              replace H := dz_back H
              exact H (some (Int32.ofInt x14))
          · replace H := dz_if c6 H
            refine wp_s (i := .iconst (-1)) (n := 1) (pc' := 31) (st' := [dz_I (-1)]) rfl rfl ?_
            refine wq_ri rfl rfl ?_
            replace H := dz_sm H
            exact H
-- 106
def jf_O_isImage (a1 : Int) : Option (Bool) := if dz_c a1 < 0 then (some false) else (if 2 ≤ dz_c a1 then (some false) else (some true))
set_option maxRecDepth 20000 in
theorem jw_O_isImage {X : Option (List Int32)} {D : Nat} {Q : Option Value → mm_H → Prop} (a1 : Int) (Z : dz_Z) (H : dz_p (jf_O_isImage a1) (fun q => Q (some (dz_B q)) (hz_0 Z))) : mm_Wp X D mm_r106 0 [some (dz_I a1)] [] (hz_0 Z) Q := by
  unfold jf_O_isImage at H
  refine wp_s (i := .iload_n 0) (n := 1) (pc' := 1) (st' := [dz_I a1]) rfl rfl ?_
  refine wq_if (p := dz_c a1 < 0) (tt := 13) (pc' := 4) rfl rfl (cz_lt rfl) rfl (fun c1 => ?_) (fun c1 => ?_)
  · replace H := dz_it c1 H
    refine wp_s (i := .iconst 0) (n := 1) (pc' := 14) (st' := [dz_I 0]) rfl rfl ?_
    refine wq_rf rfl rfl ?_
    replace H := dz_sm H
    exact H
  · replace H := dz_if c1 H
    refine wp_s (i := .iload_n 0) (n := 1) (pc' := 5) (st' := [dz_I a1]) rfl rfl ?_
    refine wp_s (i := .iconst 2) (n := 1) (pc' := 6) (st' := [dz_I 2, dz_I a1]) rfl rfl ?_
    refine wq_ic (p := 2 ≤ dz_c a1) (tt := 13) (pc' := 9) rfl rfl (cq_ge rfl dk_2) rfl (fun c2 => ?_) (fun c2 => ?_)
    · replace H := dz_it c2 H
      refine wp_s (i := .iconst 0) (n := 1) (pc' := 14) (st' := [dz_I 0]) rfl rfl ?_
      refine wq_rf rfl rfl ?_
      replace H := dz_sm H
      exact H
    · replace H := dz_if c2 H
      refine wp_s (i := .iconst 1) (n := 1) (pc' := 10) (st' := [dz_I 1]) rfl rfl ?_
      refine wp_s (i := .goto 4) (n := 3) (pc' := 14) (st' := [dz_I 1]) rfl rfl ?_
      refine wq_rt rfl rfl ?_
      replace H := dz_sm H
      exact H
-- 96
def jf_O_keep (a1 : Int) (Z : dz_Z) : Option (Int × dz_Z) := Option.bind (jf_O_isImage a1) fun q1 => if q1 = true then (if 0 ≤ dz_c a1 ∧ dz_c a1 < 2 then Option.bind (α := Int) (if dz_c (Z (68 + 19 * Int.toNat (dz_c a1)) 2 0) = 0 then (some 0) else (some 1)) (fun (q5 : Int) => dz_a (dz_u Z (68 + 19 * Int.toNat (dz_c a1)) 2 0 1) fun Z6 => if hz_isS (Z6 0 3 0).toNat then Option.bind (jf_S_copyFrom (68 + 19 * Int.toNat (dz_c a1) + 1) ((Z6 0 3 0).toNat) Z6) fun q8 => Option.bind (jf_F_copyFrom (68 + 19 * Int.toNat (dz_c a1) + 11) 46 q8) fun q9 => some (q5, q9) else none) else none) else (some ((-1), Z))
set_option maxRecDepth 20000 in
theorem jw_O_keep {X : Option (List Int32)} {D : Nat} {Q : Option Value → mm_H → Prop} (a1 : Int) (Z : dz_Z) (H : dz_p (jf_O_keep a1 Z) (fun q => Q (some (dz_I q.1)) (hz_0 q.2))) : mm_Wp X (D + 2) mm_r96 0 [some (.ref 0), some (dz_I a1), none, none] [] (hz_0 Z) Q := by
  unfold jf_O_keep at H
  refine wp_s (i := .iload_n 1) (n := 1) (pc' := 1) (st' := [dz_I a1]) rfl rfl ?_
  refine wq_cs (Dq := (D + 1)) (r' := mm_r106) (as0 := [dz_I a1]) (rest := []) (ls' := [some (dz_I a1)]) (pc' := 4) rfl rfl (by decide) rfl rfl rfl rfl rfl ?_
  refine jw_O_isImage (X := X) (D := D + 1) a1 Z (dz_pm (dz_bi H) (fun q1 H => ?_))
  show mm_Wp X (D + 2) mm_r96 4 [some (.ref 0), some (dz_I a1), none, none] [dz_B q1] (hz_0 Z) Q
  refine wq_if (p := q1 = true) (tt := 9) (pc' := 7) rfl rfl (cb_ne) rfl (fun c2 => ?_) (fun c2 => ?_)
  · replace H := dz_it c2 H
    refine wp_s (i := .aload_n 0) (n := 1) (pc' := 10) (st' := [.ref 0]) rfl rfl ?_
    refine wq_gr (idx := 58) (a := 66) (pc' := 13) rfl rfl ho_O rfl rfl ?_
    refine wp_s (i := .iload_n 1) (n := 1) (pc' := 14) (st' := [dz_I a1, .ref 66]) rfl rfl ?_
    obtain ⟨k3, H⟩ := dz_ck H
    refine wq_aa (j' := dz_c a1) (a := 68 + 19 * Int.toNat (dz_c a1)) (pc' := 15) rfl (by decide) ha_O_7 rfl k3.1 k3.2 (hr_I k3.1 k3.2) rfl ?_
    refine wp_s (i := .astore_n 2) (n := 1) (pc' := 16) (ls' := [some (.ref 0), some (dz_I a1), some (.ref (68 + 19 * Int.toNat (dz_c a1))), none]) (st' := []) rfl rfl ?_
    refine wp_s (i := .aload_n 2) (n := 1) (pc' := 17) (st' := [.ref (68 + 19 * Int.toNat (dz_c a1))]) rfl rfl ?_
    refine wq_gi (idx := 104) (pc' := 20) rfl rfl (ho_I (hi_I k3.1 k3.2)) rfl rfl ?_
    refine dz_jn (P := fun (q5 : Int) => mm_Wp X (D + 2) mm_r96 28 [some (.ref 0), some (dz_I a1), some (.ref (68 + 19 * Int.toNat (dz_c a1))), none] [dz_I q5] (hz_0 Z) Q) (dz_bi H) (fun q5 H => ?_) (fun H => ?_)
    · skip
      refine wq_st (k := 3) (i := .istore_n 3) (n := 1) (ls' := [some (.ref 0), some (dz_I a1), some (.ref (68 + 19 * Int.toNat (dz_c a1))), some (dz_I q5)]) (pc' := 29) rfl rfl rfl rfl rfl ?_
      refine wp_s (i := .aload_n 2) (n := 1) (pc' := 30) (st' := [.ref (68 + 19 * Int.toNat (dz_c a1))]) rfl rfl ?_
      refine wp_s (i := .iconst 1) (n := 1) (pc' := 31) (st' := [dz_I 1, .ref (68 + 19 * Int.toNat (dz_c a1))]) rfl rfl ?_
      refine wq_pi (idx := 104) (x := 1) (pc' := 34) rfl rfl rfl (ho_I (hi_I k3.1 k3.2)) rfl rfl rfl rfl (fun Z6 eZ6 => ?_)
      replace H := dz_le H Z6 eZ6
      clear eZ6
      refine wp_s (i := .aload_n 2) (n := 1) (pc' := 35) (st' := [.ref (68 + 19 * Int.toNat (dz_c a1))]) rfl rfl ?_
      refine wq_gr (idx := 292) (a := 68 + 19 * Int.toNat (dz_c a1) + 1) (pc' := 38) rfl rfl (ho_I (hi_I k3.1 k3.2)) rfl rfl ?_
      refine wp_s (i := .aload_n 0) (n := 1) (pc' := 39) (st' := [.ref 0, .ref (68 + 19 * Int.toNat (dz_c a1) + 1)]) rfl rfl ?_
      obtain ⟨k7, H⟩ := dz_ck H
      refine wq_gd (idx := 31) (pc' := 42) rfl rfl ho_O rfl rfl ?_
      refine wq_cv (Dq := (D + 1)) (r' := mm_r54) (as0 := [.ref ((Z6 0 3 0).toNat)]) (rest := []) (ls' := [some (.ref (68 + 19 * Int.toNat (dz_c a1) + 1)), some (.ref ((Z6 0 3 0).toNat)), none]) (pc' := 45) rfl rfl rfl rfl (ho_S (hi_IS (hi_I k3.1 k3.2))) rfl rfl rfl ?_
      refine jw_S_copyFrom (X := X) (D := D + 0) (68 + 19 * Int.toNat (dz_c a1) + 1) (hi_IS (hi_I k3.1 k3.2)) ((Z6 0 3 0).toNat) k7 Z6 (dz_pm (dz_bi H) (fun q8 H => ?_))
      show mm_Wp X (D + 2) mm_r96 45 [some (.ref 0), some (dz_I a1), some (.ref (68 + 19 * Int.toNat (dz_c a1))), some (dz_I q5)] [] (hz_0 q8) Q
      refine wp_s (i := .aload_n 2) (n := 1) (pc' := 46) (st' := [.ref (68 + 19 * Int.toNat (dz_c a1))]) rfl rfl ?_
      refine wq_gr (idx := 297) (a := 68 + 19 * Int.toNat (dz_c a1) + 11) (pc' := 49) rfl rfl (ho_I (hi_I k3.1 k3.2)) rfl rfl ?_
      refine wp_s (i := .aload_n 0) (n := 1) (pc' := 50) (st' := [.ref 0, .ref (68 + 19 * Int.toNat (dz_c a1) + 11)]) rfl rfl ?_
      refine wq_gr (idx := 38) (a := 46) (pc' := 53) rfl rfl ho_O rfl rfl ?_
      refine wq_cv (Dq := (D + 1)) (r' := mm_r11) (as0 := [.ref 46]) (rest := []) (ls' := [some (.ref (68 + 19 * Int.toNat (dz_c a1) + 11)), some (.ref 46)]) (pc' := 56) rfl rfl rfl rfl (ho_F (hi_IF (hi_I k3.1 k3.2))) rfl rfl rfl ?_
      refine jw_F_copyFrom (X := X) (D := D + 0) (68 + 19 * Int.toNat (dz_c a1) + 11) (hi_IF (hi_I k3.1 k3.2)) 46 (Or.inl rfl) q8 (dz_pm (dz_bi H) (fun q9 H => ?_))
      show mm_Wp X (D + 2) mm_r96 56 [some (.ref 0), some (dz_I a1), some (.ref (68 + 19 * Int.toNat (dz_c a1))), some (dz_I q5)] [] (hz_0 q9) Q
      refine wp_s (i := .iload_n 3) (n := 1) (pc' := 57) (st' := [dz_I q5]) rfl rfl ?_
      refine wq_ri rfl rfl ?_
      replace H := dz_sm H
      exact H
    · skip
      refine wq_if (p := dz_c (Z (68 + 19 * Int.toNat (dz_c a1)) 2 0) = 0) (tt := 27) (pc' := 23) rfl rfl (cz_eq rfl) rfl (fun c10 => ?_) (fun c10 => ?_)
      · replace H := dz_it c10 H
        refine wp_s (i := .iconst 0) (n := 1) (pc' := 28) (st' := [dz_I 0]) rfl rfl ?_
        replace H := dz_sm H
        exact H
      · replace H := dz_if c10 H
        refine wp_s (i := .iconst 1) (n := 1) (pc' := 24) (st' := [dz_I 1]) rfl rfl ?_
        refine wp_s (i := .goto 4) (n := 3) (pc' := 28) (st' := [dz_I 1]) rfl rfl ?_
        replace H := dz_sm H
        exact H
  · replace H := dz_if c2 H
    refine wp_s (i := .iconst (-1)) (n := 1) (pc' := 8) (st' := [dz_I (-1)]) rfl rfl ?_
    refine wq_ri rfl rfl ?_
    replace H := dz_sm H
    exact H
-- 97
def jf_O_back (a1 : Int) (Z : dz_Z) : Option (Int × dz_Z) := Option.bind (jf_O_isImage a1) fun q1 => if q1 = true then (if 0 ≤ dz_c a1 ∧ dz_c a1 < 2 then if dz_c (Z (68 + 19 * Int.toNat (dz_c a1)) 2 0) ≠ 0 then (if hz_isS (Z 0 3 0).toNat then Option.bind (jf_S_copyFrom ((Z 0 3 0).toNat) (68 + 19 * Int.toNat (dz_c a1) + 1) Z) fun q6 => Option.bind (jf_F_copyFrom 46 (68 + 19 * Int.toNat (dz_c a1) + 11) q6) fun q7 => some (q7 46 5 0, q7) else none) else (some ((-2), Z)) else none) else (some ((-1), Z))
set_option maxRecDepth 20000 in
theorem jw_O_back {X : Option (List Int32)} {D : Nat} {Q : Option Value → mm_H → Prop} (a1 : Int) (Z : dz_Z) (H : dz_p (jf_O_back a1 Z) (fun q => Q (some (dz_I q.1)) (hz_0 q.2))) : mm_Wp X (D + 2) mm_r97 0 [some (.ref 0), some (dz_I a1), none] [] (hz_0 Z) Q := by
  unfold jf_O_back at H
  refine wp_s (i := .iload_n 1) (n := 1) (pc' := 1) (st' := [dz_I a1]) rfl rfl ?_
  refine wq_cs (Dq := (D + 1)) (r' := mm_r106) (as0 := [dz_I a1]) (rest := []) (ls' := [some (dz_I a1)]) (pc' := 4) rfl rfl (by decide) rfl rfl rfl rfl rfl ?_
  refine jw_O_isImage (X := X) (D := D + 1) a1 Z (dz_pm (dz_bi H) (fun q1 H => ?_))
  show mm_Wp X (D + 2) mm_r97 4 [some (.ref 0), some (dz_I a1), none] [dz_B q1] (hz_0 Z) Q
  refine wq_if (p := q1 = true) (tt := 9) (pc' := 7) rfl rfl (cb_ne) rfl (fun c2 => ?_) (fun c2 => ?_)
  · replace H := dz_it c2 H
    refine wp_s (i := .aload_n 0) (n := 1) (pc' := 10) (st' := [.ref 0]) rfl rfl ?_
    refine wq_gr (idx := 58) (a := 66) (pc' := 13) rfl rfl ho_O rfl rfl ?_
    refine wp_s (i := .iload_n 1) (n := 1) (pc' := 14) (st' := [dz_I a1, .ref 66]) rfl rfl ?_
    obtain ⟨k3, H⟩ := dz_ck H
    refine wq_aa (j' := dz_c a1) (a := 68 + 19 * Int.toNat (dz_c a1)) (pc' := 15) rfl (by decide) ha_O_7 rfl k3.1 k3.2 (hr_I k3.1 k3.2) rfl ?_
    refine wp_s (i := .astore_n 2) (n := 1) (pc' := 16) (ls' := [some (.ref 0), some (dz_I a1), some (.ref (68 + 19 * Int.toNat (dz_c a1)))]) (st' := []) rfl rfl ?_
    refine wp_s (i := .aload_n 2) (n := 1) (pc' := 17) (st' := [.ref (68 + 19 * Int.toNat (dz_c a1))]) rfl rfl ?_
    refine wq_gi (idx := 104) (pc' := 20) rfl rfl (ho_I (hi_I k3.1 k3.2)) rfl rfl ?_
    refine wq_if (p := dz_c (Z (68 + 19 * Int.toNat (dz_c a1)) 2 0) ≠ 0) (tt := 26) (pc' := 23) rfl rfl (cz_ne rfl) rfl (fun c4 => ?_) (fun c4 => ?_)
    · replace H := dz_it c4 H
      refine wp_s (i := .aload_n 0) (n := 1) (pc' := 27) (st' := [.ref 0]) rfl rfl ?_
      obtain ⟨k5, H⟩ := dz_ck H
      refine wq_gd (idx := 31) (pc' := 30) rfl rfl ho_O rfl rfl ?_
      refine wp_s (i := .aload_n 2) (n := 1) (pc' := 31) (st' := [.ref (68 + 19 * Int.toNat (dz_c a1)), .ref ((Z 0 3 0).toNat)]) rfl rfl ?_
      refine wq_gr (idx := 292) (a := 68 + 19 * Int.toNat (dz_c a1) + 1) (pc' := 34) rfl rfl (ho_I (hi_I k3.1 k3.2)) rfl rfl ?_
      refine wq_cv (Dq := (D + 1)) (r' := mm_r54) (as0 := [.ref (68 + 19 * Int.toNat (dz_c a1) + 1)]) (rest := []) (ls' := [some (.ref ((Z 0 3 0).toNat)), some (.ref (68 + 19 * Int.toNat (dz_c a1) + 1)), none]) (pc' := 37) rfl rfl rfl rfl (ho_S k5) rfl rfl rfl ?_
      refine jw_S_copyFrom (X := X) (D := D + 0) ((Z 0 3 0).toNat) k5 (68 + 19 * Int.toNat (dz_c a1) + 1) (hi_IS (hi_I k3.1 k3.2)) Z (dz_pm (dz_bi H) (fun q6 H => ?_))
      show mm_Wp X (D + 2) mm_r97 37 [some (.ref 0), some (dz_I a1), some (.ref (68 + 19 * Int.toNat (dz_c a1)))] [] (hz_0 q6) Q
      refine wp_s (i := .aload_n 0) (n := 1) (pc' := 38) (st' := [.ref 0]) rfl rfl ?_
      refine wq_gr (idx := 38) (a := 46) (pc' := 41) rfl rfl ho_O rfl rfl ?_
      refine wp_s (i := .aload_n 2) (n := 1) (pc' := 42) (st' := [.ref (68 + 19 * Int.toNat (dz_c a1)), .ref 46]) rfl rfl ?_
      refine wq_gr (idx := 297) (a := 68 + 19 * Int.toNat (dz_c a1) + 11) (pc' := 45) rfl rfl (ho_I (hi_I k3.1 k3.2)) rfl rfl ?_
      refine wq_cv (Dq := (D + 1)) (r' := mm_r11) (as0 := [.ref (68 + 19 * Int.toNat (dz_c a1) + 11)]) (rest := []) (ls' := [some (.ref 46), some (.ref (68 + 19 * Int.toNat (dz_c a1) + 11))]) (pc' := 48) rfl rfl rfl rfl (ho_F (Or.inl rfl)) rfl rfl rfl ?_
      refine jw_F_copyFrom (X := X) (D := D + 0) 46 (Or.inl rfl) (68 + 19 * Int.toNat (dz_c a1) + 11) (hi_IF (hi_I k3.1 k3.2)) q6 (dz_pm (dz_bi H) (fun q7 H => ?_))
      show mm_Wp X (D + 2) mm_r97 48 [some (.ref 0), some (dz_I a1), some (.ref (68 + 19 * Int.toNat (dz_c a1)))] [] (hz_0 q7) Q
      refine wp_s (i := .aload_n 0) (n := 1) (pc' := 49) (st' := [.ref 0]) rfl rfl ?_
      refine wq_gr (idx := 38) (a := 46) (pc' := 52) rfl rfl ho_O rfl rfl ?_
      refine wq_gi (idx := 201) (pc' := 55) rfl rfl (ho_F (Or.inl rfl)) rfl rfl ?_
      refine wq_ri rfl rfl ?_
      replace H := dz_sm H
      exact H
    · replace H := dz_if c4 H
      refine wp_s (i := .bipush (-2)) (n := 2) (pc' := 25) (st' := [dz_I (-2)]) rfl rfl ?_
      refine wq_ri rfl rfl ?_
      replace H := dz_sm H
      exact H
  · replace H := dz_if c2 H
    refine wp_s (i := .iconst (-1)) (n := 1) (pc' := 8) (st' := [dz_I (-1)]) rfl rfl ?_
    refine wq_ri rfl rfl ?_
    replace H := dz_sm H
    exact H
-- 107
def jf_O_isSheet (a1 : Int) : Option (Bool) := if dz_c a1 < 0 then (some false) else (if 4 ≤ dz_c a1 then (some false) else (some true))
set_option maxRecDepth 20000 in
theorem jw_O_isSheet {X : Option (List Int32)} {D : Nat} {Q : Option Value → mm_H → Prop} (a1 : Int) (Z : dz_Z) (H : dz_p (jf_O_isSheet a1) (fun q => Q (some (dz_B q)) (hz_0 Z))) : mm_Wp X D mm_r107 0 [some (dz_I a1)] [] (hz_0 Z) Q := by
  unfold jf_O_isSheet at H
  refine wp_s (i := .iload_n 0) (n := 1) (pc' := 1) (st' := [dz_I a1]) rfl rfl ?_
  refine wq_if (p := dz_c a1 < 0) (tt := 13) (pc' := 4) rfl rfl (cz_lt rfl) rfl (fun c1 => ?_) (fun c1 => ?_)
  · replace H := dz_it c1 H
    refine wp_s (i := .iconst 0) (n := 1) (pc' := 14) (st' := [dz_I 0]) rfl rfl ?_
    refine wq_rf rfl rfl ?_
    replace H := dz_sm H
    exact H
  · replace H := dz_if c1 H
    refine wp_s (i := .iload_n 0) (n := 1) (pc' := 5) (st' := [dz_I a1]) rfl rfl ?_
    refine wp_s (i := .iconst 4) (n := 1) (pc' := 6) (st' := [dz_I 4, dz_I a1]) rfl rfl ?_
    refine wq_ic (p := 4 ≤ dz_c a1) (tt := 13) (pc' := 9) rfl rfl (cq_ge rfl dk_4) rfl (fun c2 => ?_) (fun c2 => ?_)
    · replace H := dz_it c2 H
      refine wp_s (i := .iconst 0) (n := 1) (pc' := 14) (st' := [dz_I 0]) rfl rfl ?_
      refine wq_rf rfl rfl ?_
      replace H := dz_sm H
      exact H
    · replace H := dz_if c2 H
      refine wp_s (i := .iconst 1) (n := 1) (pc' := 10) (st' := [dz_I 1]) rfl rfl ?_
      refine wp_s (i := .goto 4) (n := 3) (pc' := 14) (st' := [dz_I 1]) rfl rfl ?_
      refine wq_rt rfl rfl ?_
      replace H := dz_sm H
      exact H
-- 108
def jf_O_isLane (a1 : Int) : Option (Bool) := if dz_c a1 < 0 then (some false) else (if 3 ≤ dz_c a1 then (some false) else (some true))
set_option maxRecDepth 20000 in
theorem jw_O_isLane {X : Option (List Int32)} {D : Nat} {Q : Option Value → mm_H → Prop} (a1 : Int) (Z : dz_Z) (H : dz_p (jf_O_isLane a1) (fun q => Q (some (dz_B q)) (hz_0 Z))) : mm_Wp X D mm_r108 0 [some (dz_I a1)] [] (hz_0 Z) Q := by
  unfold jf_O_isLane at H
  refine wp_s (i := .iload_n 0) (n := 1) (pc' := 1) (st' := [dz_I a1]) rfl rfl ?_
  refine wq_if (p := dz_c a1 < 0) (tt := 13) (pc' := 4) rfl rfl (cz_lt rfl) rfl (fun c1 => ?_) (fun c1 => ?_)
  · replace H := dz_it c1 H
    refine wp_s (i := .iconst 0) (n := 1) (pc' := 14) (st' := [dz_I 0]) rfl rfl ?_
    refine wq_rf rfl rfl ?_
    replace H := dz_sm H
    exact H
  · replace H := dz_if c1 H
    refine wp_s (i := .iload_n 0) (n := 1) (pc' := 5) (st' := [dz_I a1]) rfl rfl ?_
    refine wp_s (i := .iconst 3) (n := 1) (pc' := 6) (st' := [dz_I 3, dz_I a1]) rfl rfl ?_
    refine wq_ic (p := 3 ≤ dz_c a1) (tt := 13) (pc' := 9) rfl rfl (cq_ge rfl dk_3) rfl (fun c2 => ?_) (fun c2 => ?_)
    · replace H := dz_it c2 H
      refine wp_s (i := .iconst 0) (n := 1) (pc' := 14) (st' := [dz_I 0]) rfl rfl ?_
      refine wq_rf rfl rfl ?_
      replace H := dz_sm H
      exact H
    · replace H := dz_if c2 H
      refine wp_s (i := .iconst 1) (n := 1) (pc' := 10) (st' := [dz_I 1]) rfl rfl ?_
      refine wp_s (i := .goto 4) (n := 3) (pc' := 14) (st' := [dz_I 1]) rfl rfl ?_
      refine wq_rt rfl rfl ?_
      replace H := dz_sm H
      exact H
-- 98
def jf_O_sheet (a1 : Int) (a2 : Int) (a3 : Int) (Z : dz_Z) : Option (Int × dz_Z) := Option.bind (jf_O_isSheet a1) fun q1 => if q1 = false then (some ((-1), Z)) else (Option.bind (jf_O_isLane a2) fun q3 => if q3 = false then (some ((-1), Z)) else (if dz_c a3 ≤ 40 then (if 0 ≤ dz_c a3 then (if 0 ≤ dz_c a1 ∧ dz_c a1 < 4 then Option.bind (jf_H_renew (106 + 2 * Int.toNat (dz_c a1)) a2 a3 Z) fun q8 => some (1, q8) else none) else (some ((-14), Z))) else (some ((-1), Z))))
set_option maxRecDepth 20000 in
theorem jw_O_sheet {X : Option (List Int32)} {D : Nat} {Q : Option Value → mm_H → Prop} (a1 : Int) (a2 : Int) (a3 : Int) (Z : dz_Z) (H : dz_p (jf_O_sheet a1 a2 a3 Z) (fun q => Q (some (dz_I q.1)) (hz_0 q.2))) : mm_Wp X (D + 2) mm_r98 0 [some (.ref 0), some (dz_I a1), some (dz_I a2), some (dz_I a3)] [] (hz_0 Z) Q := by
  unfold jf_O_sheet at H
  refine wp_s (i := .iload_n 1) (n := 1) (pc' := 1) (st' := [dz_I a1]) rfl rfl ?_
  refine wq_cs (Dq := (D + 1)) (r' := mm_r107) (as0 := [dz_I a1]) (rest := []) (ls' := [some (dz_I a1)]) (pc' := 4) rfl rfl (by decide) rfl rfl rfl rfl rfl ?_
  refine jw_O_isSheet (X := X) (D := D + 1) a1 Z (dz_pm (dz_bi H) (fun q1 H => ?_))
  show mm_Wp X (D + 2) mm_r98 4 [some (.ref 0), some (dz_I a1), some (dz_I a2), some (dz_I a3)] [dz_B q1] (hz_0 Z) Q
  refine wq_if (p := q1 = false) (tt := 20) (pc' := 7) rfl rfl (cb_eq) rfl (fun c2 => ?_) (fun c2 => ?_)
  · replace H := dz_it c2 H
    refine wp_s (i := .iconst (-1)) (n := 1) (pc' := 21) (st' := [dz_I (-1)]) rfl rfl ?_
    refine wq_ri rfl rfl ?_
    replace H := dz_sm H
    exact H
  · replace H := dz_if c2 H
    refine wp_s (i := .iload_n 2) (n := 1) (pc' := 8) (st' := [dz_I a2]) rfl rfl ?_
    refine wq_cs (Dq := (D + 1)) (r' := mm_r108) (as0 := [dz_I a2]) (rest := []) (ls' := [some (dz_I a2)]) (pc' := 11) rfl rfl (by decide) rfl rfl rfl rfl rfl ?_
    refine jw_O_isLane (X := X) (D := D + 1) a2 Z (dz_pm (dz_bi H) (fun q3 H => ?_))
    show mm_Wp X (D + 2) mm_r98 11 [some (.ref 0), some (dz_I a1), some (dz_I a2), some (dz_I a3)] [dz_B q3] (hz_0 Z) Q
    refine wq_if (p := q3 = false) (tt := 20) (pc' := 14) rfl rfl (cb_eq) rfl (fun c4 => ?_) (fun c4 => ?_)
    · replace H := dz_it c4 H
      refine wp_s (i := .iconst (-1)) (n := 1) (pc' := 21) (st' := [dz_I (-1)]) rfl rfl ?_
      refine wq_ri rfl rfl ?_
      replace H := dz_sm H
      exact H
    · replace H := dz_if c4 H
      refine wp_s (i := .iload_n 3) (n := 1) (pc' := 15) (st' := [dz_I a3]) rfl rfl ?_
      refine wp_s (i := .bipush 40) (n := 2) (pc' := 17) (st' := [dz_I 40, dz_I a3]) rfl rfl ?_
      refine wq_ic (p := dz_c a3 ≤ 40) (tt := 22) (pc' := 20) rfl rfl (cq_le rfl dk_40) rfl (fun c5 => ?_) (fun c5 => ?_)
      · replace H := dz_it c5 H
        refine wp_s (i := .iload_n 3) (n := 1) (pc' := 23) (st' := [dz_I a3]) rfl rfl ?_
        refine wq_if (p := 0 ≤ dz_c a3) (tt := 29) (pc' := 26) rfl rfl (cz_ge rfl) rfl (fun c6 => ?_) (fun c6 => ?_)
        · replace H := dz_it c6 H
          refine wp_s (i := .aload_n 0) (n := 1) (pc' := 30) (st' := [.ref 0]) rfl rfl ?_
          refine wq_gr (idx := 64) (a := 67) (pc' := 33) rfl rfl ho_O rfl rfl ?_
          refine wp_s (i := .iload_n 1) (n := 1) (pc' := 34) (st' := [dz_I a1, .ref 67]) rfl rfl ?_
          obtain ⟨k7, H⟩ := dz_ck H
          refine wq_aa (j' := dz_c a1) (a := 106 + 2 * Int.toNat (dz_c a1)) (pc' := 35) rfl (by decide) ha_O_8 rfl k7.1 k7.2 (hr_H k7.1 k7.2) rfl ?_
          refine wp_s (i := .iload_n 2) (n := 1) (pc' := 36) (st' := [dz_I a2, .ref (106 + 2 * Int.toNat (dz_c a1))]) rfl rfl ?_
          refine wp_s (i := .iload_n 3) (n := 1) (pc' := 37) (st' := [dz_I a3, dz_I a2, .ref (106 + 2 * Int.toNat (dz_c a1))]) rfl rfl ?_
          refine wq_cv (Dq := (D + 1)) (r' := mm_r59) (as0 := [dz_I a2, dz_I a3]) (rest := []) (ls' := [some (.ref (106 + 2 * Int.toNat (dz_c a1))), some (dz_I a2), some (dz_I a3)]) (pc' := 40) rfl rfl rfl rfl (ho_H (hi_H k7.1 k7.2)) rfl rfl rfl ?_
          refine jw_H_renew (X := X) (D := D + 0) (106 + 2 * Int.toNat (dz_c a1)) (hi_H k7.1 k7.2) a2 a3 Z (dz_pm (dz_bi H) (fun q8 H => ?_))
          show mm_Wp X (D + 2) mm_r98 40 [some (.ref 0), some (dz_I a1), some (dz_I a2), some (dz_I a3)] [] (hz_0 q8) Q
          refine wp_s (i := .iconst 1) (n := 1) (pc' := 41) (st' := [dz_I 1]) rfl rfl ?_
          refine wq_ri rfl rfl ?_
          replace H := dz_sm H
          exact H
        · replace H := dz_if c6 H
          refine wp_s (i := .bipush (-14)) (n := 2) (pc' := 28) (st' := [dz_I (-14)]) rfl rfl ?_
          refine wq_ri rfl rfl ?_
          replace H := dz_sm H
          exact H
      · replace H := dz_if c5 H
        refine wp_s (i := .iconst (-1)) (n := 1) (pc' := 21) (st' := [dz_I (-1)]) rfl rfl ?_
        refine wq_ri rfl rfl ?_
        replace H := dz_sm H
        exact H
-- 99
def jf_O_lay (a1 : Int) (a2 : Int) (a3 : Int) (Z : dz_Z) : Option (Int × dz_Z) := Option.bind (jf_O_isSheet a1) fun q1 => if q1 = true then (if 0 ≤ dz_c a1 ∧ dz_c a1 < 4 then Option.bind (jf_H_faultAt (106 + 2 * Int.toNat (dz_c a1)) (Z (106 + 2 * Int.toNat (dz_c a1)) 1 0) a2 Z) fun q4 => if dz_c q4 = 0 then (Option.bind (jf_H_put (106 + 2 * Int.toNat (dz_c a1)) a2 a3 Z) fun q6 => some (1, q6)) else (some ((-10) - q4, Z)) else none) else (some ((-1), Z))
set_option maxRecDepth 20000 in
theorem jw_O_lay {X : Option (List Int32)} {D : Nat} {Q : Option Value → mm_H → Prop} (a1 : Int) (a2 : Int) (a3 : Int) (Z : dz_Z) (H : dz_p (jf_O_lay a1 a2 a3 Z) (fun q => Q (some (dz_I q.1)) (hz_0 q.2))) : mm_Wp X (D + 2) mm_r99 0 [some (.ref 0), some (dz_I a1), some (dz_I a2), some (dz_I a3), none, none] [] (hz_0 Z) Q := by
  unfold jf_O_lay at H
  refine wp_s (i := .iload_n 1) (n := 1) (pc' := 1) (st' := [dz_I a1]) rfl rfl ?_
  refine wq_cs (Dq := (D + 1)) (r' := mm_r107) (as0 := [dz_I a1]) (rest := []) (ls' := [some (dz_I a1)]) (pc' := 4) rfl rfl (by decide) rfl rfl rfl rfl rfl ?_
  refine jw_O_isSheet (X := X) (D := D + 1) a1 Z (dz_pm (dz_bi H) (fun q1 H => ?_))
  show mm_Wp X (D + 2) mm_r99 4 [some (.ref 0), some (dz_I a1), some (dz_I a2), some (dz_I a3), none, none] [dz_B q1] (hz_0 Z) Q
  refine wq_if (p := q1 = true) (tt := 9) (pc' := 7) rfl rfl (cb_ne) rfl (fun c2 => ?_) (fun c2 => ?_)
  · replace H := dz_it c2 H
    refine wp_s (i := .aload_n 0) (n := 1) (pc' := 10) (st' := [.ref 0]) rfl rfl ?_
    refine wq_gr (idx := 64) (a := 67) (pc' := 13) rfl rfl ho_O rfl rfl ?_
    refine wp_s (i := .iload_n 1) (n := 1) (pc' := 14) (st' := [dz_I a1, .ref 67]) rfl rfl ?_
    obtain ⟨k3, H⟩ := dz_ck H
    refine wq_aa (j' := dz_c a1) (a := 106 + 2 * Int.toNat (dz_c a1)) (pc' := 15) rfl (by decide) ha_O_8 rfl k3.1 k3.2 (hr_H k3.1 k3.2) rfl ?_
    refine wp_s (i := .astore 4) (n := 2) (pc' := 17) (ls' := [some (.ref 0), some (dz_I a1), some (dz_I a2), some (dz_I a3), some (.ref (106 + 2 * Int.toNat (dz_c a1))), none]) (st' := []) rfl rfl ?_
    refine wp_s (i := .aload 4) (n := 2) (pc' := 19) (st' := [.ref (106 + 2 * Int.toNat (dz_c a1))]) rfl rfl ?_
    refine wp_s (i := .aload 4) (n := 2) (pc' := 21) (st' := [.ref (106 + 2 * Int.toNat (dz_c a1)), .ref (106 + 2 * Int.toNat (dz_c a1))]) rfl rfl ?_
    refine wq_gi (idx := 310) (pc' := 24) rfl rfl (ho_H (hi_H k3.1 k3.2)) rfl rfl ?_
    refine wp_s (i := .iload_n 2) (n := 1) (pc' := 25) (st' := [dz_I a2, dz_I (Z (106 + 2 * Int.toNat (dz_c a1)) 1 0), .ref (106 + 2 * Int.toNat (dz_c a1))]) rfl rfl ?_
    refine wq_cv (Dq := (D + 1)) (r' := mm_r60) (as0 := [dz_I (Z (106 + 2 * Int.toNat (dz_c a1)) 1 0), dz_I a2]) (rest := []) (ls' := [some (.ref (106 + 2 * Int.toNat (dz_c a1))), some (dz_I (Z (106 + 2 * Int.toNat (dz_c a1)) 1 0)), some (dz_I a2)]) (pc' := 28) rfl rfl rfl rfl (ho_H (hi_H k3.1 k3.2)) rfl rfl rfl ?_
    refine jw_H_faultAt (X := X) (D := D + 0) (106 + 2 * Int.toNat (dz_c a1)) (hi_H k3.1 k3.2) (Z (106 + 2 * Int.toNat (dz_c a1)) 1 0) a2 Z (dz_pm (dz_bi H) (fun q4 H => ?_))
    show mm_Wp X (D + 2) mm_r99 28 [some (.ref 0), some (dz_I a1), some (dz_I a2), some (dz_I a3), some (.ref (106 + 2 * Int.toNat (dz_c a1))), none] [dz_I q4] (hz_0 Z) Q
    refine wq_st (k := 5) (i := .istore 5) (n := 2) (ls' := [some (.ref 0), some (dz_I a1), some (dz_I a2), some (dz_I a3), some (.ref (106 + 2 * Int.toNat (dz_c a1))), some (dz_I q4)]) (pc' := 30) rfl rfl rfl rfl rfl ?_
    refine wp_s (i := .iload 5) (n := 2) (pc' := 32) (st' := [dz_I q4]) rfl rfl ?_
    refine wq_if (p := dz_c q4 = 0) (tt := 41) (pc' := 35) rfl rfl (cz_eq rfl) rfl (fun c5 => ?_) (fun c5 => ?_)
    · replace H := dz_it c5 H
      refine wp_s (i := .aload 4) (n := 2) (pc' := 43) (st' := [.ref (106 + 2 * Int.toNat (dz_c a1))]) rfl rfl ?_
      refine wp_s (i := .iload_n 2) (n := 1) (pc' := 44) (st' := [dz_I a2, .ref (106 + 2 * Int.toNat (dz_c a1))]) rfl rfl ?_
      refine wp_s (i := .iload_n 3) (n := 1) (pc' := 45) (st' := [dz_I a3, dz_I a2, .ref (106 + 2 * Int.toNat (dz_c a1))]) rfl rfl ?_
      refine wq_cv (Dq := (D + 1)) (r' := mm_r61) (as0 := [dz_I a2, dz_I a3]) (rest := []) (ls' := [some (.ref (106 + 2 * Int.toNat (dz_c a1))), some (dz_I a2), some (dz_I a3)]) (pc' := 48) rfl rfl rfl rfl (ho_H (hi_H k3.1 k3.2)) rfl rfl rfl ?_
      refine jw_H_put (X := X) (D := D + 1) (106 + 2 * Int.toNat (dz_c a1)) (hi_H k3.1 k3.2) a2 a3 Z (dz_pm (dz_bi H) (fun q6 H => ?_))
      show mm_Wp X (D + 2) mm_r99 48 [some (.ref 0), some (dz_I a1), some (dz_I a2), some (dz_I a3), some (.ref (106 + 2 * Int.toNat (dz_c a1))), some (dz_I q4)] [] (hz_0 q6) Q
      refine wp_s (i := .iconst 1) (n := 1) (pc' := 49) (st' := [dz_I 1]) rfl rfl ?_
      refine wq_ri rfl rfl ?_
      replace H := dz_sm H
      exact H
    · replace H := dz_if c5 H
      refine wp_s (i := .bipush (-10)) (n := 2) (pc' := 37) (st' := [dz_I (-10)]) rfl rfl ?_
      refine wp_s (i := .iload 5) (n := 2) (pc' := 39) (st' := [dz_I q4, dz_I (-10)]) rfl rfl ?_
      refine wq_2 (i := .isub) (z := (-10) - q4) (pc' := 40) rfl rfl (op_sub _ _) rfl ?_
      refine wq_ri rfl rfl ?_
      replace H := dz_sm H
      exact H
  · replace H := dz_if c2 H
    refine wp_s (i := .iconst (-1)) (n := 1) (pc' := 8) (st' := [dz_I (-1)]) rfl rfl ?_
    refine wq_ri rfl rfl ?_
    replace H := dz_sm H
    exact H
-- 100
def jf_O_read (a1 : Int) (a2 : Int) (a3 : Int) (a4 : Int) (Z : dz_Z) : Option (Int × dz_Z) := Option.bind (jf_O_isSheet a1) fun q1 => if q1 = false then (some ((-1), Z)) else (Option.bind (jf_O_isLane a2) fun q3 => if q3 = false then (some ((-1), Z)) else (if dz_c a4 < 0 then (some ((-1), Z)) else (if dz_c a4 ≤ 12 then (if 0 ≤ dz_c a1 ∧ dz_c a1 < 4 then dz_lp (fun (s8 : Int × Int) => if dz_c a4 ≤ dz_c s8.1 then (dz_lp (fun (s10 : Int × dz_Z) => if dz_c s8.1 ≤ dz_c s10.1 then (dz_a (dz_u s10.2 0 10 0 s8.2) fun Z12 => some (Sum.inr (Sum.inr (s8.1, Z12)))) else (if hz_isP (s10.2 0 2 0).toNat then if hz_isS (s10.2 0 3 0).toNat then if 0 ≤ dz_c (a3 + s10.1) ∧ dz_c (a3 + s10.1) < 40 then Option.bind (jf_F_passSecond 46 ((s10.2 0 2 0).toNat) ((s10.2 0 3 0).toNat) (s10.2 (106 + 2 * Int.toNat (dz_c a1)) 0 (dz_c (a3 + s10.1))) s10.2) fun q16 => some (Sum.inl (s10.1 + 1, q16.2)) else none else none else none)) 5000 (0, Z)) else (if dz_c s8.2 ≠ 0 then (dz_lp (fun (s18 : Int × dz_Z) => if dz_c s8.1 ≤ dz_c s18.1 then (dz_a (dz_u s18.2 0 10 0 s8.2) fun Z20 => some (Sum.inr (Sum.inr (s8.1, Z20)))) else (if hz_isP (s18.2 0 2 0).toNat then if hz_isS (s18.2 0 3 0).toNat then if 0 ≤ dz_c (a3 + s18.1) ∧ dz_c (a3 + s18.1) < 40 then Option.bind (jf_F_passSecond 46 ((s18.2 0 2 0).toNat) ((s18.2 0 3 0).toNat) (s18.2 (106 + 2 * Int.toNat (dz_c a1)) 0 (dz_c (a3 + s18.1))) s18.2) fun q24 => some (Sum.inl (s18.1 + 1, q24.2)) else none else none else none)) 5000 (0, Z)) else (Option.bind (jf_H_faultAt (106 + 2 * Int.toNat (dz_c a1)) a2 (a3 + s8.1) Z) fun q25 => if dz_c q25 ≠ 0 then (some (Sum.inl (s8.1, q25))) else (if 0 ≤ dz_c (a3 + s8.1) ∧ dz_c (a3 + s8.1) < 40 then Option.bind (jf_O_isRain (Z (106 + 2 * Int.toNat (dz_c a1)) 0 (dz_c (a3 + s8.1)))) fun q28 => if q28 = true then (some (Sum.inl (s8.1 + 1, q25))) else (some (Sum.inr ((-20) - s8.1, Z))) else none)))) 5000 (0, 0) else none) else (some ((-1), Z)))))
set_option maxRecDepth 20000 in
theorem jw_O_read {X : Option (List Int32)} {D : Nat} {Q : Option Value → mm_H → Prop} (a1 : Int) (a2 : Int) (a3 : Int) (a4 : Int) (Z : dz_Z) (H : dz_p (jf_O_read a1 a2 a3 a4 Z) (fun q => Q (some (dz_I q.1)) (hz_0 q.2))) : mm_Wp X (D + 4) mm_r100 0 [some (.ref 0), some (dz_I a1), some (dz_I a2), some (dz_I a3), some (dz_I a4), none, none, none, none] [] (hz_0 Z) Q := by
  unfold jf_O_read at H
  refine wp_s (i := .iload_n 1) (n := 1) (pc' := 1) (st' := [dz_I a1]) rfl rfl ?_
  refine wq_cs (Dq := (D + 3)) (r' := mm_r107) (as0 := [dz_I a1]) (rest := []) (ls' := [some (dz_I a1)]) (pc' := 4) rfl rfl (by decide) rfl rfl rfl rfl rfl ?_
  refine jw_O_isSheet (X := X) (D := D + 3) a1 Z (dz_pm (dz_bi H) (fun q1 H => ?_))
  show mm_Wp X (D + 4) mm_r100 4 [some (.ref 0), some (dz_I a1), some (dz_I a2), some (dz_I a3), some (dz_I a4), none, none, none, none] [dz_B q1] (hz_0 Z) Q
  refine wq_if (p := q1 = false) (tt := 26) (pc' := 7) rfl rfl (cb_eq) rfl (fun c2 => ?_) (fun c2 => ?_)
  · replace H := dz_it c2 H
    refine wp_s (i := .iconst (-1)) (n := 1) (pc' := 27) (st' := [dz_I (-1)]) rfl rfl ?_
    refine wq_ri rfl rfl ?_
    replace H := dz_sm H
    exact H
  · replace H := dz_if c2 H
    refine wp_s (i := .iload_n 2) (n := 1) (pc' := 8) (st' := [dz_I a2]) rfl rfl ?_
    refine wq_cs (Dq := (D + 3)) (r' := mm_r108) (as0 := [dz_I a2]) (rest := []) (ls' := [some (dz_I a2)]) (pc' := 11) rfl rfl (by decide) rfl rfl rfl rfl rfl ?_
    refine jw_O_isLane (X := X) (D := D + 3) a2 Z (dz_pm (dz_bi H) (fun q3 H => ?_))
    show mm_Wp X (D + 4) mm_r100 11 [some (.ref 0), some (dz_I a1), some (dz_I a2), some (dz_I a3), some (dz_I a4), none, none, none, none] [dz_B q3] (hz_0 Z) Q
    refine wq_if (p := q3 = false) (tt := 26) (pc' := 14) rfl rfl (cb_eq) rfl (fun c4 => ?_) (fun c4 => ?_)
    · replace H := dz_it c4 H
      refine wp_s (i := .iconst (-1)) (n := 1) (pc' := 27) (st' := [dz_I (-1)]) rfl rfl ?_
      refine wq_ri rfl rfl ?_
      replace H := dz_sm H
      exact H
    · replace H := dz_if c4 H
      refine wp_s (i := .iload 4) (n := 2) (pc' := 16) (st' := [dz_I a4]) rfl rfl ?_
      refine wq_if (p := dz_c a4 < 0) (tt := 26) (pc' := 19) rfl rfl (cz_lt rfl) rfl (fun c5 => ?_) (fun c5 => ?_)
      · replace H := dz_it c5 H
        refine wp_s (i := .iconst (-1)) (n := 1) (pc' := 27) (st' := [dz_I (-1)]) rfl rfl ?_
        refine wq_ri rfl rfl ?_
        replace H := dz_sm H
        exact H
      · replace H := dz_if c5 H
        refine wp_s (i := .iload 4) (n := 2) (pc' := 21) (st' := [dz_I a4]) rfl rfl ?_
        refine wp_s (i := .bipush 12) (n := 2) (pc' := 23) (st' := [dz_I 12, dz_I a4]) rfl rfl ?_
        refine wq_ic (p := dz_c a4 ≤ 12) (tt := 28) (pc' := 26) rfl rfl (cq_le rfl dk_12) rfl (fun c6 => ?_) (fun c6 => ?_)
        · replace H := dz_it c6 H
          refine wp_s (i := .aload_n 0) (n := 1) (pc' := 29) (st' := [.ref 0]) rfl rfl ?_
          refine wq_gr (idx := 64) (a := 67) (pc' := 32) rfl rfl ho_O rfl rfl ?_
          refine wp_s (i := .iload_n 1) (n := 1) (pc' := 33) (st' := [dz_I a1, .ref 67]) rfl rfl ?_
          obtain ⟨k7, H⟩ := dz_ck H
          refine wq_aa (j' := dz_c a1) (a := 106 + 2 * Int.toNat (dz_c a1)) (pc' := 34) rfl (by decide) ha_O_8 rfl k7.1 k7.2 (hr_H k7.1 k7.2) rfl ?_
          refine wp_s (i := .astore 5) (n := 2) (pc' := 36) (ls' := [some (.ref 0), some (dz_I a1), some (dz_I a2), some (dz_I a3), some (dz_I a4), some (.ref (106 + 2 * Int.toNat (dz_c a1))), none, none, none]) (st' := []) rfl rfl ?_
          refine wp_s (i := .iconst 0) (n := 1) (pc' := 37) (st' := [dz_I 0]) rfl rfl ?_
          refine wq_st (k := 6) (i := .istore 6) (n := 2) (ls' := [some (.ref 0), some (dz_I a1), some (dz_I a2), some (dz_I a3), some (dz_I a4), some (.ref (106 + 2 * Int.toNat (dz_c a1))), some (dz_I 0), none, none]) (pc' := 39) rfl rfl rfl rfl rfl ?_
          refine wp_s (i := .iconst 0) (n := 1) (pc' := 40) (st' := [dz_I 0]) rfl rfl ?_
          refine wq_st (k := 7) (i := .istore 7) (n := 2) (ls' := [some (.ref 0), some (dz_I a1), some (dz_I a2), some (dz_I a3), some (dz_I a4), some (.ref (106 + 2 * Int.toNat (dz_c a1))), some (dz_I 0), some (dz_I 0), none]) (pc' := 42) rfl rfl rfl rfl rfl ?_
          refine dz_lpi (P := fun (s8 : Int × Int) => mm_Wp X (D + 4) mm_r100 42 [some (.ref 0), some (dz_I a1), some (dz_I a2), some (dz_I a3), some (dz_I a4), some (.ref (106 + 2 * Int.toNat (dz_c a1))), some (dz_I s8.1), some (dz_I s8.2), none] [] (hz_0 Z) Q) (fun s8 H => ?_) 5000 (0, 0) H
          refine wp_s (i := .iload 6) (n := 2) (pc' := 44) (st' := [dz_I s8.1]) rfl rfl ?_
          refine wp_s (i := .iload 4) (n := 2) (pc' := 46) (st' := [dz_I a4, dz_I s8.1]) rfl rfl ?_
          refine wq_ic (p := dz_c a4 ≤ dz_c s8.1) (tt := 99) (pc' := 49) rfl rfl (cq_ge rfl rfl) rfl (fun c9 => ?_) (fun c9 => ?_)
          · replace H := dz_it c9 H
            refine wp_s (i := .iconst 0) (n := 1) (pc' := 100) (st' := [dz_I 0]) rfl rfl ?_
            refine wq_st (k := 8) (i := .istore 8) (n := 2) (ls' := [some (.ref 0), some (dz_I a1), some (dz_I a2), some (dz_I a3), some (dz_I a4), some (.ref (106 + 2 * Int.toNat (dz_c a1))), some (dz_I s8.1), some (dz_I s8.2), some (dz_I 0)]) (pc' := 102) rfl rfl rfl rfl rfl ?_
            refine dz_lpi (P := fun (s10 : Int × dz_Z) => mm_Wp X (D + 4) mm_r100 102 [some (.ref 0), some (dz_I a1), some (dz_I a2), some (dz_I a3), some (dz_I a4), some (.ref (106 + 2 * Int.toNat (dz_c a1))), some (dz_I s8.1), some (dz_I s8.2), some (dz_I s10.1)] [] (hz_0 s10.2) Q) (fun s10 H => ?_) 5000 (0, Z) H
            refine wp_s (i := .iload 8) (n := 2) (pc' := 104) (st' := [dz_I s10.1]) rfl rfl ?_
            refine wp_s (i := .iload 6) (n := 2) (pc' := 106) (st' := [dz_I s8.1, dz_I s10.1]) rfl rfl ?_
            refine wq_ic (p := dz_c s8.1 ≤ dz_c s10.1) (tt := 141) (pc' := 109) rfl rfl (cq_ge rfl rfl) rfl (fun c11 => ?_) (fun c11 => ?_)
            · replace H := dz_it c11 H
              refine wp_s (i := .aload_n 0) (n := 1) (pc' := 142) (st' := [.ref 0]) rfl rfl ?_
              refine wp_s (i := .iload 7) (n := 2) (pc' := 144) (st' := [dz_I s8.2, .ref 0]) rfl rfl ?_
              refine wq_pi (idx := 323) (x := s8.2) (pc' := 147) rfl rfl rfl ho_O rfl rfl rfl rfl (fun Z12 eZ12 => ?_)
              replace H := dz_le H Z12 eZ12
              clear eZ12
              refine wp_s (i := .iload 6) (n := 2) (pc' := 149) (st' := [dz_I s8.1]) rfl rfl ?_
              refine wq_ri rfl rfl ?_
              replace H := dz_out H
              replace H := dz_out H
              replace H := dz_sm H
              exact H
            · replace H := dz_if c11 H
              refine wp_s (i := .aload_n 0) (n := 1) (pc' := 110) (st' := [.ref 0]) rfl rfl ?_
              refine wq_gr (idx := 38) (a := 46) (pc' := 113) rfl rfl ho_O rfl rfl ?_
              refine wp_s (i := .aload_n 0) (n := 1) (pc' := 114) (st' := [.ref 0, .ref 46]) rfl rfl ?_
              obtain ⟨k13, H⟩ := dz_ck H
              refine wq_gd (idx := 24) (pc' := 117) rfl rfl ho_O rfl rfl ?_
              refine wp_s (i := .aload_n 0) (n := 1) (pc' := 118) (st' := [.ref 0, .ref ((s10.2 0 2 0).toNat), .ref 46]) rfl rfl ?_
              obtain ⟨k14, H⟩ := dz_ck H
              refine wq_gd (idx := 31) (pc' := 121) rfl rfl ho_O rfl rfl ?_
              refine wp_s (i := .aload 5) (n := 2) (pc' := 123) (st' := [.ref (106 + 2 * Int.toNat (dz_c a1)), .ref ((s10.2 0 3 0).toNat), .ref ((s10.2 0 2 0).toNat), .ref 46]) rfl rfl ?_
              refine wq_gr (idx := 320) (a := 106 + 2 * Int.toNat (dz_c a1) + 1) (pc' := 126) rfl rfl (ho_H (hi_H k7.1 k7.2)) rfl rfl ?_
              refine wp_s (i := .iload_n 3) (n := 1) (pc' := 127) (st' := [dz_I a3, .ref (106 + 2 * Int.toNat (dz_c a1) + 1), .ref ((s10.2 0 3 0).toNat), .ref ((s10.2 0 2 0).toNat), .ref 46]) rfl rfl ?_
              refine wp_s (i := .iload 8) (n := 2) (pc' := 129) (st' := [dz_I s10.1, dz_I a3, .ref (106 + 2 * Int.toNat (dz_c a1) + 1), .ref ((s10.2 0 3 0).toNat), .ref ((s10.2 0 2 0).toNat), .ref 46]) rfl rfl ?_
              refine wq_2 (i := .iadd) (z := a3 + s10.1) (pc' := 130) rfl rfl (op_add _ _) rfl ?_
              obtain ⟨k15, H⟩ := dz_ck H
              refine wq_ia (j' := dz_c (a3 + s10.1)) (pc' := 131) rfl (ha_H_0 (hi_H k7.1 k7.2)) rfl k15.1 k15.2 rfl ?_
              refine wq_cv (Dq := (D + 3)) (r' := mm_r12) (as0 := [.ref ((s10.2 0 2 0).toNat), .ref ((s10.2 0 3 0).toNat), dz_I (s10.2 (106 + 2 * Int.toNat (dz_c a1)) 0 (dz_c (a3 + s10.1)))]) (rest := []) (ls' := [some (.ref 46), some (.ref ((s10.2 0 2 0).toNat)), some (.ref ((s10.2 0 3 0).toNat)), some (dz_I (s10.2 (106 + 2 * Int.toNat (dz_c a1)) 0 (dz_c (a3 + s10.1)))), none]) (pc' := 134) rfl rfl rfl rfl (ho_F (Or.inl rfl)) rfl rfl rfl ?_
              refine jw_F_passSecond (X := X) (D := D + 0) 46 (Or.inl rfl) ((s10.2 0 2 0).toNat) k13 ((s10.2 0 3 0).toNat) k14 (s10.2 (106 + 2 * Int.toNat (dz_c a1)) 0 (dz_c (a3 + s10.1))) s10.2 (dz_pm (dz_bi H) (fun q16 H => ?_))
              show mm_Wp X (D + 4) mm_r100 134 [some (.ref 0), some (dz_I a1), some (dz_I a2), some (dz_I a3), some (dz_I a4), some (.ref (106 + 2 * Int.toNat (dz_c a1))), some (dz_I s8.1), some (dz_I s8.2), some (dz_I s10.1)] [dz_I q16.1] (hz_0 q16.2) Q
              refine wp_s (i := .pop) (n := 1) (pc' := 135) (st' := []) rfl rfl ?_
              refine wq_inc (k := 8) (d := 1) (x := s10.1) (ls' := [some (.ref 0), some (dz_I a1), some (dz_I a2), some (dz_I a3), some (dz_I a4), some (.ref (106 + 2 * Int.toNat (dz_c a1))), some (dz_I s8.1), some (dz_I s8.2), some (dz_I (s10.1 + 1))]) (pc' := 138) rfl rfl rfl rfl ?_
              refine wp_s (i := .goto (-36)) (n := 3) (pc' := 102) (st' := []) rfl rfl ?_
              replace H := dz_back H
              exact H
          · replace H := dz_if c9 H
            refine wp_s (i := .iload 7) (n := 2) (pc' := 51) (st' := [dz_I s8.2]) rfl rfl ?_
            refine wq_if (p := dz_c s8.2 ≠ 0) (tt := 99) (pc' := 54) rfl rfl (cz_ne rfl) rfl (fun c17 => ?_) (fun c17 => ?_)
            · replace H := dz_it c17 H
              refine wp_s (i := .iconst 0) (n := 1) (pc' := 100) (st' := [dz_I 0]) rfl rfl ?_
              refine wq_st (k := 8) (i := .istore 8) (n := 2) (ls' := [some (.ref 0), some (dz_I a1), some (dz_I a2), some (dz_I a3), some (dz_I a4), some (.ref (106 + 2 * Int.toNat (dz_c a1))), some (dz_I s8.1), some (dz_I s8.2), some (dz_I 0)]) (pc' := 102) rfl rfl rfl rfl rfl ?_
              refine dz_lpi (P := fun (s18 : Int × dz_Z) => mm_Wp X (D + 4) mm_r100 102 [some (.ref 0), some (dz_I a1), some (dz_I a2), some (dz_I a3), some (dz_I a4), some (.ref (106 + 2 * Int.toNat (dz_c a1))), some (dz_I s8.1), some (dz_I s8.2), some (dz_I s18.1)] [] (hz_0 s18.2) Q) (fun s18 H => ?_) 5000 (0, Z) H
              refine wp_s (i := .iload 8) (n := 2) (pc' := 104) (st' := [dz_I s18.1]) rfl rfl ?_
              refine wp_s (i := .iload 6) (n := 2) (pc' := 106) (st' := [dz_I s8.1, dz_I s18.1]) rfl rfl ?_
              refine wq_ic (p := dz_c s8.1 ≤ dz_c s18.1) (tt := 141) (pc' := 109) rfl rfl (cq_ge rfl rfl) rfl (fun c19 => ?_) (fun c19 => ?_)
              · replace H := dz_it c19 H
                refine wp_s (i := .aload_n 0) (n := 1) (pc' := 142) (st' := [.ref 0]) rfl rfl ?_
                refine wp_s (i := .iload 7) (n := 2) (pc' := 144) (st' := [dz_I s8.2, .ref 0]) rfl rfl ?_
                refine wq_pi (idx := 323) (x := s8.2) (pc' := 147) rfl rfl rfl ho_O rfl rfl rfl rfl (fun Z20 eZ20 => ?_)
                replace H := dz_le H Z20 eZ20
                clear eZ20
                refine wp_s (i := .iload 6) (n := 2) (pc' := 149) (st' := [dz_I s8.1]) rfl rfl ?_
                refine wq_ri rfl rfl ?_
                replace H := dz_out H
                replace H := dz_out H
                replace H := dz_sm H
                exact H
              · replace H := dz_if c19 H
                refine wp_s (i := .aload_n 0) (n := 1) (pc' := 110) (st' := [.ref 0]) rfl rfl ?_
                refine wq_gr (idx := 38) (a := 46) (pc' := 113) rfl rfl ho_O rfl rfl ?_
                refine wp_s (i := .aload_n 0) (n := 1) (pc' := 114) (st' := [.ref 0, .ref 46]) rfl rfl ?_
                obtain ⟨k21, H⟩ := dz_ck H
                refine wq_gd (idx := 24) (pc' := 117) rfl rfl ho_O rfl rfl ?_
                refine wp_s (i := .aload_n 0) (n := 1) (pc' := 118) (st' := [.ref 0, .ref ((s18.2 0 2 0).toNat), .ref 46]) rfl rfl ?_
                obtain ⟨k22, H⟩ := dz_ck H
                refine wq_gd (idx := 31) (pc' := 121) rfl rfl ho_O rfl rfl ?_
                refine wp_s (i := .aload 5) (n := 2) (pc' := 123) (st' := [.ref (106 + 2 * Int.toNat (dz_c a1)), .ref ((s18.2 0 3 0).toNat), .ref ((s18.2 0 2 0).toNat), .ref 46]) rfl rfl ?_
                refine wq_gr (idx := 320) (a := 106 + 2 * Int.toNat (dz_c a1) + 1) (pc' := 126) rfl rfl (ho_H (hi_H k7.1 k7.2)) rfl rfl ?_
                refine wp_s (i := .iload_n 3) (n := 1) (pc' := 127) (st' := [dz_I a3, .ref (106 + 2 * Int.toNat (dz_c a1) + 1), .ref ((s18.2 0 3 0).toNat), .ref ((s18.2 0 2 0).toNat), .ref 46]) rfl rfl ?_
                refine wp_s (i := .iload 8) (n := 2) (pc' := 129) (st' := [dz_I s18.1, dz_I a3, .ref (106 + 2 * Int.toNat (dz_c a1) + 1), .ref ((s18.2 0 3 0).toNat), .ref ((s18.2 0 2 0).toNat), .ref 46]) rfl rfl ?_
                refine wq_2 (i := .iadd) (z := a3 + s18.1) (pc' := 130) rfl rfl (op_add _ _) rfl ?_
                obtain ⟨k23, H⟩ := dz_ck H
                refine wq_ia (j' := dz_c (a3 + s18.1)) (pc' := 131) rfl (ha_H_0 (hi_H k7.1 k7.2)) rfl k23.1 k23.2 rfl ?_
                refine wq_cv (Dq := (D + 3)) (r' := mm_r12) (as0 := [.ref ((s18.2 0 2 0).toNat), .ref ((s18.2 0 3 0).toNat), dz_I (s18.2 (106 + 2 * Int.toNat (dz_c a1)) 0 (dz_c (a3 + s18.1)))]) (rest := []) (ls' := [some (.ref 46), some (.ref ((s18.2 0 2 0).toNat)), some (.ref ((s18.2 0 3 0).toNat)), some (dz_I (s18.2 (106 + 2 * Int.toNat (dz_c a1)) 0 (dz_c (a3 + s18.1)))), none]) (pc' := 134) rfl rfl rfl rfl (ho_F (Or.inl rfl)) rfl rfl rfl ?_
                refine jw_F_passSecond (X := X) (D := D + 0) 46 (Or.inl rfl) ((s18.2 0 2 0).toNat) k21 ((s18.2 0 3 0).toNat) k22 (s18.2 (106 + 2 * Int.toNat (dz_c a1)) 0 (dz_c (a3 + s18.1))) s18.2 (dz_pm (dz_bi H) (fun q24 H => ?_))
                show mm_Wp X (D + 4) mm_r100 134 [some (.ref 0), some (dz_I a1), some (dz_I a2), some (dz_I a3), some (dz_I a4), some (.ref (106 + 2 * Int.toNat (dz_c a1))), some (dz_I s8.1), some (dz_I s8.2), some (dz_I s18.1)] [dz_I q24.1] (hz_0 q24.2) Q
                refine wp_s (i := .pop) (n := 1) (pc' := 135) (st' := []) rfl rfl ?_
                refine wq_inc (k := 8) (d := 1) (x := s18.1) (ls' := [some (.ref 0), some (dz_I a1), some (dz_I a2), some (dz_I a3), some (dz_I a4), some (.ref (106 + 2 * Int.toNat (dz_c a1))), some (dz_I s8.1), some (dz_I s8.2), some (dz_I (s18.1 + 1))]) (pc' := 138) rfl rfl rfl rfl ?_
                refine wp_s (i := .goto (-36)) (n := 3) (pc' := 102) (st' := []) rfl rfl ?_
                replace H := dz_back H
                exact H
            · replace H := dz_if c17 H
              refine wp_s (i := .aload 5) (n := 2) (pc' := 56) (st' := [.ref (106 + 2 * Int.toNat (dz_c a1))]) rfl rfl ?_
              refine wp_s (i := .iload_n 2) (n := 1) (pc' := 57) (st' := [dz_I a2, .ref (106 + 2 * Int.toNat (dz_c a1))]) rfl rfl ?_
              refine wp_s (i := .iload_n 3) (n := 1) (pc' := 58) (st' := [dz_I a3, dz_I a2, .ref (106 + 2 * Int.toNat (dz_c a1))]) rfl rfl ?_
              refine wp_s (i := .iload 6) (n := 2) (pc' := 60) (st' := [dz_I s8.1, dz_I a3, dz_I a2, .ref (106 + 2 * Int.toNat (dz_c a1))]) rfl rfl ?_
              refine wq_2 (i := .iadd) (z := a3 + s8.1) (pc' := 61) rfl rfl (op_add _ _) rfl ?_
              refine wq_cv (Dq := (D + 3)) (r' := mm_r60) (as0 := [dz_I a2, dz_I (a3 + s8.1)]) (rest := []) (ls' := [some (.ref (106 + 2 * Int.toNat (dz_c a1))), some (dz_I a2), some (dz_I (a3 + s8.1))]) (pc' := 64) rfl rfl rfl rfl (ho_H (hi_H k7.1 k7.2)) rfl rfl rfl ?_
              refine jw_H_faultAt (X := X) (D := D + 2) (106 + 2 * Int.toNat (dz_c a1)) (hi_H k7.1 k7.2) a2 (a3 + s8.1) Z (dz_pm (dz_bi H) (fun q25 H => ?_))
              show mm_Wp X (D + 4) mm_r100 64 [some (.ref 0), some (dz_I a1), some (dz_I a2), some (dz_I a3), some (dz_I a4), some (.ref (106 + 2 * Int.toNat (dz_c a1))), some (dz_I s8.1), some (dz_I s8.2), none] [dz_I q25] (hz_0 Z) Q
              refine wq_st (k := 7) (i := .istore 7) (n := 2) (ls' := [some (.ref 0), some (dz_I a1), some (dz_I a2), some (dz_I a3), some (dz_I a4), some (.ref (106 + 2 * Int.toNat (dz_c a1))), some (dz_I s8.1), some (dz_I q25), none]) (pc' := 66) rfl rfl rfl rfl rfl ?_
              refine wp_s (i := .iload 7) (n := 2) (pc' := 68) (st' := [dz_I q25]) rfl rfl ?_
              refine wq_if (p := dz_c q25 ≠ 0) (tt := 42) (pc' := 71) rfl rfl (cz_ne rfl) rfl (fun c26 => ?_) (fun c26 => ?_)
              · replace H := dz_it c26 H
                replace H := dz_back H
                exact H
              · replace H := dz_if c26 H
                refine wp_s (i := .aload 5) (n := 2) (pc' := 73) (st' := [.ref (106 + 2 * Int.toNat (dz_c a1))]) rfl rfl ?_
                refine wq_gr (idx := 320) (a := 106 + 2 * Int.toNat (dz_c a1) + 1) (pc' := 76) rfl rfl (ho_H (hi_H k7.1 k7.2)) rfl rfl ?_
                refine wp_s (i := .iload_n 3) (n := 1) (pc' := 77) (st' := [dz_I a3, .ref (106 + 2 * Int.toNat (dz_c a1) + 1)]) rfl rfl ?_
                refine wp_s (i := .iload 6) (n := 2) (pc' := 79) (st' := [dz_I s8.1, dz_I a3, .ref (106 + 2 * Int.toNat (dz_c a1) + 1)]) rfl rfl ?_
                refine wq_2 (i := .iadd) (z := a3 + s8.1) (pc' := 80) rfl rfl (op_add _ _) rfl ?_
                obtain ⟨k27, H⟩ := dz_ck H
                refine wq_ia (j' := dz_c (a3 + s8.1)) (pc' := 81) rfl (ha_H_0 (hi_H k7.1 k7.2)) rfl k27.1 k27.2 rfl ?_
                refine wq_cs (Dq := (D + 3)) (r' := mm_r109) (as0 := [dz_I (Z (106 + 2 * Int.toNat (dz_c a1)) 0 (dz_c (a3 + s8.1)))]) (rest := []) (ls' := [some (dz_I (Z (106 + 2 * Int.toNat (dz_c a1)) 0 (dz_c (a3 + s8.1))))]) (pc' := 84) rfl rfl (by decide) rfl rfl rfl rfl rfl ?_
                refine jw_O_isRain (X := X) (D := D + 3) (Z (106 + 2 * Int.toNat (dz_c a1)) 0 (dz_c (a3 + s8.1))) Z (dz_pm (dz_bi H) (fun q28 H => ?_))
                show mm_Wp X (D + 4) mm_r100 84 [some (.ref 0), some (dz_I a1), some (dz_I a2), some (dz_I a3), some (dz_I a4), some (.ref (106 + 2 * Int.toNat (dz_c a1))), some (dz_I s8.1), some (dz_I q25), none] [dz_B q28] (hz_0 Z) Q
                refine wq_if (p := q28 = true) (tt := 93) (pc' := 87) rfl rfl (cb_ne) rfl (fun c29 => ?_) (fun c29 => ?_)
                · replace H := dz_it c29 H
                  refine wq_inc (k := 6) (d := 1) (x := s8.1) (ls' := [some (.ref 0), some (dz_I a1), some (dz_I a2), some (dz_I a3), some (dz_I a4), some (.ref (106 + 2 * Int.toNat (dz_c a1))), some (dz_I (s8.1 + 1)), some (dz_I q25), none]) (pc' := 96) rfl rfl rfl rfl ?_
                  refine wp_s (i := .goto (-54)) (n := 3) (pc' := 42) (st' := []) rfl rfl ?_
                  replace H := dz_back H
                  exact H
                · replace H := dz_if c29 H
                  refine wp_s (i := .bipush (-20)) (n := 2) (pc' := 89) (st' := [dz_I (-20)]) rfl rfl ?_
                  refine wp_s (i := .iload 6) (n := 2) (pc' := 91) (st' := [dz_I s8.1, dz_I (-20)]) rfl rfl ?_
                  refine wq_2 (i := .isub) (z := (-20) - s8.1) (pc' := 92) rfl rfl (op_sub _ _) rfl ?_
                  refine wq_ri rfl rfl ?_
                  replace H := dz_out H
                  replace H := dz_sm H
                  exact H
        · replace H := dz_if c6 H
          refine wp_s (i := .iconst (-1)) (n := 1) (pc' := 27) (st' := [dz_I (-1)]) rfl rfl ?_
          refine wq_ri rfl rfl ?_
          replace H := dz_sm H
          exact H
-- 101
def jf_O_torn (Z : dz_Z) : Option (Int) := some (Z 0 10 0)
set_option maxRecDepth 20000 in
theorem jw_O_torn {X : Option (List Int32)} {D : Nat} {Q : Option Value → mm_H → Prop} (Z : dz_Z) (H : dz_p (jf_O_torn Z) (fun q => Q (some (dz_I q)) (hz_0 Z))) : mm_Wp X D mm_r101 0 [some (.ref 0)] [] (hz_0 Z) Q := by
  unfold jf_O_torn at H
  refine wp_s (i := .aload_n 0) (n := 1) (pc' := 1) (st' := [.ref 0]) rfl rfl ?_
  refine wq_gi (idx := 323) (pc' := 4) rfl rfl ho_O rfl rfl ?_
  refine wq_ri rfl rfl ?_
  replace H := dz_sm H
  exact H
end mg_25m08
section mg_25m09
-- 113
def jf_O_keptImages (Z : dz_Z) : Option (Int) := dz_lp (fun (s1 : Int × Int) => if 2 ≤ dz_c s1.2 then (some (Sum.inr s1.1)) else (if 0 ≤ dz_c s1.2 ∧ dz_c s1.2 < 2 then Option.bind (α := Int) (if dz_c (Z (68 + 19 * Int.toNat (dz_c s1.2)) 2 0) = 0 then (some 0) else (some 1)) (fun (q5 : Int) => some (Sum.inl (s1.1 + q5, s1.2 + 1))) else none)) 5000 (0, 0)
set_option maxRecDepth 20000 in
theorem jw_O_keptImages {X : Option (List Int32)} {D : Nat} {Q : Option Value → mm_H → Prop} (Z : dz_Z) (H : dz_p (jf_O_keptImages Z) (fun q => Q (some (dz_I q)) (hz_0 Z))) : mm_Wp X D mm_r113 0 [some (.ref 0), none, none] [] (hz_0 Z) Q := by
  unfold jf_O_keptImages at H
  refine wp_s (i := .iconst 0) (n := 1) (pc' := 1) (st' := [dz_I 0]) rfl rfl ?_
  refine wq_st (k := 1) (i := .istore_n 1) (n := 1) (ls' := [some (.ref 0), some (dz_I 0), none]) (pc' := 2) rfl rfl rfl rfl rfl ?_
  refine wp_s (i := .iconst 0) (n := 1) (pc' := 3) (st' := [dz_I 0]) rfl rfl ?_
  refine wq_st (k := 2) (i := .istore_n 2) (n := 1) (ls' := [some (.ref 0), some (dz_I 0), some (dz_I 0)]) (pc' := 4) rfl rfl rfl rfl rfl ?_
  refine dz_lpi (P := fun (s1 : Int × Int) => mm_Wp X D mm_r113 4 [some (.ref 0), some (dz_I s1.1), some (dz_I s1.2)] [] (hz_0 Z) Q) (fun s1 H => ?_) 5000 (0, 0) H
  refine wp_s (i := .iload_n 2) (n := 1) (pc' := 5) (st' := [dz_I s1.2]) rfl rfl ?_
  refine wp_s (i := .iconst 2) (n := 1) (pc' := 6) (st' := [dz_I 2, dz_I s1.2]) rfl rfl ?_
  refine wq_ic (p := 2 ≤ dz_c s1.2) (tt := 35) (pc' := 9) rfl rfl (cq_ge rfl dk_2) rfl (fun c2 => ?_) (fun c2 => ?_)
  · replace H := dz_it c2 H
    refine wp_s (i := .iload_n 1) (n := 1) (pc' := 36) (st' := [dz_I s1.1]) rfl rfl ?_
    refine wq_ri rfl rfl ?_
    replace H := dz_out H
    replace H := dz_sm H
    exact H
  · replace H := dz_if c2 H
    refine wp_s (i := .iload_n 1) (n := 1) (pc' := 10) (st' := [dz_I s1.1]) rfl rfl ?_
    refine wp_s (i := .aload_n 0) (n := 1) (pc' := 11) (st' := [.ref 0, dz_I s1.1]) rfl rfl ?_
    refine wq_gr (idx := 58) (a := 66) (pc' := 14) rfl rfl ho_O rfl rfl ?_
    refine wp_s (i := .iload_n 2) (n := 1) (pc' := 15) (st' := [dz_I s1.2, .ref 66, dz_I s1.1]) rfl rfl ?_
    obtain ⟨k3, H⟩ := dz_ck H
    refine wq_aa (j' := dz_c s1.2) (a := 68 + 19 * Int.toNat (dz_c s1.2)) (pc' := 16) rfl (by decide) ha_O_7 rfl k3.1 k3.2 (hr_I k3.1 k3.2) rfl ?_
    refine wq_gi (idx := 104) (pc' := 19) rfl rfl (ho_I (hi_I k3.1 k3.2)) rfl rfl ?_
    refine dz_jn (P := fun (q5 : Int) => mm_Wp X D mm_r113 27 [some (.ref 0), some (dz_I s1.1), some (dz_I s1.2)] [dz_I q5, dz_I s1.1] (hz_0 Z) Q) (dz_bi H) (fun q5 H => ?_) (fun H => ?_)
    · skip
      refine wq_2 (i := .iadd) (z := s1.1 + q5) (pc' := 28) rfl rfl (op_add _ _) rfl ?_
      refine wq_st (k := 1) (i := .istore_n 1) (n := 1) (ls' := [some (.ref 0), some (dz_I (s1.1 + q5)), some (dz_I s1.2)]) (pc' := 29) rfl rfl rfl rfl rfl ?_
      refine wq_inc (k := 2) (d := 1) (x := s1.2) (ls' := [some (.ref 0), some (dz_I (s1.1 + q5)), some (dz_I (s1.2 + 1))]) (pc' := 32) rfl rfl rfl rfl ?_
      refine wp_s (i := .goto (-28)) (n := 3) (pc' := 4) (st' := []) rfl rfl ?_
      replace H := dz_back H
      exact H
    · skip
      refine wq_if (p := dz_c (Z (68 + 19 * Int.toNat (dz_c s1.2)) 2 0) = 0) (tt := 26) (pc' := 22) rfl rfl (cz_eq rfl) rfl (fun c6 => ?_) (fun c6 => ?_)
      · replace H := dz_it c6 H
        refine wp_s (i := .iconst 0) (n := 1) (pc' := 27) (st' := [dz_I 0, dz_I s1.1]) rfl rfl ?_
        replace H := dz_sm H
        exact H
      · replace H := dz_if c6 H
        refine wp_s (i := .iconst 1) (n := 1) (pc' := 23) (st' := [dz_I 1, dz_I s1.1]) rfl rfl ?_
        refine wp_s (i := .goto 4) (n := 3) (pc' := 27) (st' := [dz_I 1, dz_I s1.1]) rfl rfl ?_
        replace H := dz_sm H
        exact H
-- 102
def jf_O_count (a1 : Int) (Z : dz_Z) : Option (Int) := if dz_c a1 = 0 then (if hz_isS (Z 0 3 0).toNat then Option.bind (jf_O_sum ((Z 0 3 0).toNat) 1 5 Z) fun q3 => some q3 else none) else (if dz_c a1 = 1 then (if hz_isP (Z 0 2 0).toNat then Option.bind (jf_F_brokenSpouts 46 ((Z 0 2 0).toNat) Z) fun q6 => Option.bind (jf_J_bitCount q6) fun q7 => some q7 else none) else (if dz_c a1 = 2 then (Option.bind (jf_O_keptImages Z) fun q9 => some q9) else (if dz_c a1 = 3 then (some (Z 2 1 0)) else (if dz_c a1 = 4 then (Option.bind (jf_H_isNothing (106 + 2 * Int.toNat 0) Z) fun q12 => if q12 = false then (some (Z (106 + 2 * Int.toNat 0) 2 0)) else (some (-4))) else (some (-1))))))
set_option maxRecDepth 20000 in
theorem jw_O_count {X : Option (List Int32)} {D : Nat} {Q : Option Value → mm_H → Prop} (a1 : Int) (Z : dz_Z) (H : dz_p (jf_O_count a1 Z) (fun q => Q (some (dz_I q)) (hz_0 Z))) : mm_Wp X (D + 2) mm_r102 0 [some (.ref 0), some (dz_I a1)] [] (hz_0 Z) Q := by
  unfold jf_O_count at H
  refine wp_s (i := .iload_n 1) (n := 1) (pc' := 1) (st' := [dz_I a1]) rfl rfl ?_
  by_cases c1 : dz_c a1 = 0
  · replace H := dz_it c1 H
    refine wq_ts (x' := dz_c a1) (tt := 36) rfl rfl (by rw [c1]; rfl) ?_
    refine wp_s (i := .aload_n 0) (n := 1) (pc' := 37) (st' := [.ref 0]) rfl rfl ?_
    obtain ⟨k2, H⟩ := dz_ck H
    refine wq_gd (idx := 31) (pc' := 40) rfl rfl ho_O rfl rfl ?_
    refine wq_gr (idx := 143) (a := (Z 0 3 0).toNat + 2) (pc' := 43) rfl rfl (ho_S k2) rfl rfl ?_
    refine wq_cs (Dq := (D + 1)) (r' := mm_r111) (as0 := [.ref ((Z 0 3 0).toNat + 2)]) (rest := []) (ls' := [some (.ref ((Z 0 3 0).toNat + 2)), none, none, none, none, none]) (pc' := 46) rfl rfl (by decide) rfl rfl rfl rfl rfl ?_
    refine jw_O_sum (X := X) (D := D + 1) ((Z 0 3 0).toNat + 2) ((Z 0 3 0).toNat) 1 5 (ha_S_1 k2) Z (dz_pm (dz_bi H) (fun q3 H => ?_))
    show mm_Wp X (D + 2) mm_r102 46 [some (.ref 0), some (dz_I a1)] [dz_I q3] (hz_0 Z) Q
    refine wq_ri rfl rfl ?_
    replace H := dz_sm H
    exact H
  · replace H := dz_if c1 H
    by_cases c4 : dz_c a1 = 1
    · replace H := dz_it c4 H
      refine wq_ts (x' := dz_c a1) (tt := 47) rfl rfl (by rw [c4]; rfl) ?_
      refine wp_s (i := .aload_n 0) (n := 1) (pc' := 48) (st' := [.ref 0]) rfl rfl ?_
      refine wq_gr (idx := 38) (a := 46) (pc' := 51) rfl rfl ho_O rfl rfl ?_
      refine wp_s (i := .aload_n 0) (n := 1) (pc' := 52) (st' := [.ref 0, .ref 46]) rfl rfl ?_
      obtain ⟨k5, H⟩ := dz_ck H
      refine wq_gd (idx := 24) (pc' := 55) rfl rfl ho_O rfl rfl ?_
      refine wq_cv (Dq := (D + 1)) (r' := mm_r24) (as0 := [.ref ((Z 0 2 0).toNat)]) (rest := []) (ls' := [some (.ref 46), some (.ref ((Z 0 2 0).toNat)), none, none]) (pc' := 58) rfl rfl rfl rfl (ho_F (Or.inl rfl)) rfl rfl rfl ?_
      refine jw_F_brokenSpouts (X := X) (D := D + 0) 46 (Or.inl rfl) ((Z 0 2 0).toNat) k5 Z (dz_pm (dz_bi H) (fun q6 H => ?_))
      show mm_Wp X (D + 2) mm_r102 58 [some (.ref 0), some (dz_I a1)] [dz_I q6] (hz_0 Z) Q
      refine wq_cs (Dq := (D + 1)) (r' := mm_r192) (as0 := [dz_I q6]) (rest := []) (ls' := [some (dz_I q6)]) (pc' := 61) rfl rfl (by decide) rfl rfl rfl rfl rfl ?_
      refine jw_J_bitCount (X := X) (D := D + 1) q6 Z (dz_pm (dz_bi H) (fun q7 H => ?_))
      show mm_Wp X (D + 2) mm_r102 61 [some (.ref 0), some (dz_I a1)] [dz_I q7] (hz_0 Z) Q
      refine wq_ri rfl rfl ?_
      replace H := dz_sm H
      exact H
    · replace H := dz_if c4 H
      by_cases c8 : dz_c a1 = 2
      · replace H := dz_it c8 H
        refine wq_ts (x' := dz_c a1) (tt := 62) rfl rfl (by rw [c8]; rfl) ?_
        refine wp_s (i := .aload_n 0) (n := 1) (pc' := 63) (st' := [.ref 0]) rfl rfl ?_
        refine wq_cv (Dq := (D + 1)) (r' := mm_r113) (as0 := []) (rest := []) (ls' := [some (.ref 0), none, none]) (pc' := 66) rfl rfl rfl rfl ho_O rfl rfl rfl ?_
        refine jw_O_keptImages (X := X) (D := D + 1) Z (dz_pm (dz_bi H) (fun q9 H => ?_))
        show mm_Wp X (D + 2) mm_r102 66 [some (.ref 0), some (dz_I a1)] [dz_I q9] (hz_0 Z) Q
        refine wq_ri rfl rfl ?_
        replace H := dz_sm H
        exact H
      · replace H := dz_if c8 H
        by_cases c10 : dz_c a1 = 3
        · replace H := dz_it c10 H
          refine wq_ts (x' := dz_c a1) (tt := 67) rfl rfl (by rw [c10]; rfl) ?_
          refine wp_s (i := .aload_n 0) (n := 1) (pc' := 68) (st' := [.ref 0]) rfl rfl ?_
          refine wq_gr (idx := 20) (a := 2) (pc' := 71) rfl rfl ho_O rfl rfl ?_
          refine wq_gi (idx := 70) (pc' := 74) rfl rfl ho_T rfl rfl ?_
          refine wq_ri rfl rfl ?_
          replace H := dz_sm H
          exact H
        · replace H := dz_if c10 H
          by_cases c11 : dz_c a1 = 4
          · replace H := dz_it c11 H
            refine wq_ts (x' := dz_c a1) (tt := 75) rfl rfl (by rw [c11]; rfl) ?_
            refine wp_s (i := .aload_n 0) (n := 1) (pc' := 76) (st' := [.ref 0]) rfl rfl ?_
            refine wq_gr (idx := 64) (a := 67) (pc' := 79) rfl rfl ho_O rfl rfl ?_
            refine wp_s (i := .iconst 0) (n := 1) (pc' := 80) (st' := [dz_I 0, .ref 67]) rfl rfl ?_
            refine wq_aa (j' := 0) (a := 106 + 2 * Int.toNat 0) (pc' := 81) rfl (by decide) ha_O_8 dk_0 (by decide) (by decide) (hr_H (by decide) (by decide)) rfl ?_
            refine wq_cv (Dq := (D + 1)) (r' := mm_r58) (as0 := []) (rest := []) (ls' := [some (.ref (106 + 2 * Int.toNat 0))]) (pc' := 84) rfl rfl rfl rfl (ho_H (hi_H (by decide) (by decide))) rfl rfl rfl ?_
            refine jw_H_isNothing (X := X) (D := D + 1) (106 + 2 * Int.toNat 0) (hi_H (by decide) (by decide)) Z (dz_pm (dz_bi H) (fun q12 H => ?_))
            show mm_Wp X (D + 2) mm_r102 84 [some (.ref 0), some (dz_I a1)] [dz_B q12] (hz_0 Z) Q
            refine wq_if (p := q12 = false) (tt := 92) (pc' := 87) rfl rfl (cb_eq) rfl (fun c13 => ?_) (fun c13 => ?_)
            · replace H := dz_it c13 H
              refine wp_s (i := .aload_n 0) (n := 1) (pc' := 93) (st' := [.ref 0]) rfl rfl ?_
              refine wq_gr (idx := 64) (a := 67) (pc' := 96) rfl rfl ho_O rfl rfl ?_
              refine wp_s (i := .iconst 0) (n := 1) (pc' := 97) (st' := [dz_I 0, .ref 67]) rfl rfl ?_
              refine wq_aa (j' := 0) (a := 106 + 2 * Int.toNat 0) (pc' := 98) rfl (by decide) ha_O_8 dk_0 (by decide) (by decide) (hr_H (by decide) (by decide)) rfl ?_
              refine wq_gi (idx := 337) (pc' := 101) rfl rfl (ho_H (hi_H (by decide) (by decide))) rfl rfl ?_
              refine wq_ri rfl rfl ?_
              replace H := dz_sm H
              exact H
            · replace H := dz_if c13 H
              refine wp_s (i := .bipush (-4)) (n := 2) (pc' := 89) (st' := [dz_I (-4)]) rfl rfl ?_
              refine wp_s (i := .goto 12) (n := 3) (pc' := 101) (st' := [dz_I (-4)]) rfl rfl ?_
              refine wq_ri rfl rfl ?_
              replace H := dz_sm H
              exact H
          · replace H := dz_if c11 H
            refine wq_ts (x' := dz_c a1) (tt := 102) rfl rfl (by unfold mm_sw; rw [if_pos (by omega)]; rfl) ?_
            refine wp_s (i := .iconst (-1)) (n := 1) (pc' := 103) (st' := [dz_I (-1)]) rfl rfl ?_
            refine wq_ri rfl rfl ?_
            replace H := dz_sm H
            exact H
-- 121
def jf_M_feed (a1 : Int) (Z : dz_Z) : Option (Int × dz_Z) := if dz_c ((Z 114 22 0) + 8) ≤ 320 then (dz_lp (fun (s2 : Int × dz_Z) => if dz_c s2.1 < 0 then (some (Sum.inr (s2.2 114 22 0, s2.2))) else (if 0 ≤ dz_c (s2.2 114 22 0) ∧ dz_c (s2.2 114 22 0) < 320 then dz_a (dz_u s2.2 114 21 (dz_c (s2.2 114 22 0)) (dz_an (dz_li (dz_lsr a1 s2.1)) 255)) fun Z5 => dz_a (dz_u Z5 114 22 0 ((Z5 114 22 0) + 1)) fun Z6 => some (Sum.inl (s2.1 + (-8), Z6)) else none)) 5000 (56, Z)) else (some ((-3), Z))
set_option maxRecDepth 20000 in
theorem jw_M_feed {X : Option (List Int32)} {D : Nat} {Q : Option Value → mm_H → Prop} (a1 : Int) (Z : dz_Z) (H : dz_p (jf_M_feed a1 Z) (fun q => Q (some (dz_I q.1)) (hz_0 q.2))) : mm_Wp X D mm_r121 0 [some (.ref 114), some (dz_J a1), none, none] [] (hz_0 Z) Q := by
  unfold jf_M_feed at H
  refine wp_s (i := .aload_n 0) (n := 1) (pc' := 1) (st' := [.ref 114]) rfl rfl ?_
  refine wq_gi (idx := 77) (pc' := 4) rfl rfl ho_M rfl rfl ?_
  refine wp_s (i := .bipush 8) (n := 2) (pc' := 6) (st' := [dz_I 8, dz_I (Z 114 22 0)]) rfl rfl ?_
  refine wq_2 (i := .iadd) (z := (Z 114 22 0) + 8) (pc' := 7) rfl rfl (op_add _ _) rfl ?_
  refine wp_s (i := .sipush 320) (n := 3) (pc' := 10) (st' := [dz_I 320, dz_I ((Z 114 22 0) + 8)]) rfl rfl ?_
  refine wq_ic (p := dz_c ((Z 114 22 0) + 8) ≤ 320) (tt := 16) (pc' := 13) rfl rfl (cq_le rfl dk_320) rfl (fun c1 => ?_) (fun c1 => ?_)
  · replace H := dz_it c1 H
    refine wp_s (i := .bipush 56) (n := 2) (pc' := 18) (st' := [dz_I 56]) rfl rfl ?_
    refine wq_st (k := 3) (i := .istore_n 3) (n := 1) (ls' := [some (.ref 114), some (dz_J a1), none, some (dz_I 56)]) (pc' := 19) rfl rfl rfl rfl rfl ?_
    refine dz_lpi (P := fun (s2 : Int × dz_Z) => mm_Wp X D mm_r121 19 [some (.ref 114), some (dz_J a1), none, some (dz_I s2.1)] [] (hz_0 s2.2) Q) (fun s2 H => ?_) 5000 (56, Z) H
    refine wp_s (i := .iload_n 3) (n := 1) (pc' := 20) (st' := [dz_I s2.1]) rfl rfl ?_
    refine wq_if (p := dz_c s2.1 < 0) (tt := 56) (pc' := 23) rfl rfl (cz_lt rfl) rfl (fun c3 => ?_) (fun c3 => ?_)
    · replace H := dz_it c3 H
      refine wp_s (i := .aload_n 0) (n := 1) (pc' := 57) (st' := [.ref 114]) rfl rfl ?_
      refine wq_gi (idx := 77) (pc' := 60) rfl rfl ho_M rfl rfl ?_
      refine wq_ri rfl rfl ?_
      replace H := dz_out H
      replace H := dz_sm H
      exact H
    · replace H := dz_if c3 H
      refine wp_s (i := .aload_n 0) (n := 1) (pc' := 24) (st' := [.ref 114]) rfl rfl ?_
      refine wq_gr (idx := 43) (a := 126) (pc' := 27) rfl rfl ho_M rfl rfl ?_
      refine wp_s (i := .aload_n 0) (n := 1) (pc' := 28) (st' := [.ref 114, .ref 126]) rfl rfl ?_
      refine wq_gi (idx := 77) (pc' := 31) rfl rfl ho_M rfl rfl ?_
      refine wp_s (i := .lload_n 1) (n := 1) (pc' := 32) (st' := [dz_J a1, dz_I (s2.2 114 22 0), .ref 126]) rfl rfl ?_
      refine wp_s (i := .iload_n 3) (n := 1) (pc' := 33) (st' := [dz_I s2.1, dz_J a1, dz_I (s2.2 114 22 0), .ref 126]) rfl rfl ?_
      refine wq_4 (i := .lshr) (v' := dz_J (dz_lsr a1 s2.1)) (pc' := 34) rfl rfl (ol_shr _ _) rfl ?_
      refine wq_3 (i := .l2i) (v' := dz_I (dz_li (dz_lsr a1 s2.1))) (pc' := 35) rfl rfl (oq_l2i _) rfl ?_
      refine wp_s (i := .sipush 255) (n := 3) (pc' := 38) (st' := [dz_I 255, dz_I (dz_li (dz_lsr a1 s2.1)), dz_I (s2.2 114 22 0), .ref 126]) rfl rfl ?_
      refine wq_2 (i := .iand) (z := dz_an (dz_li (dz_lsr a1 s2.1)) 255) (pc' := 39) rfl rfl (op_and _ _) rfl ?_
      obtain ⟨k4, H⟩ := dz_ck H
      refine wq_is (j' := dz_c (s2.2 114 22 0)) (x := dz_an (dz_li (dz_lsr a1 s2.1)) 255) (pc' := 40) rfl ha_M_21 rfl k4.1 k4.2 rfl (fun Z5 eZ5 => ?_)
      replace H := dz_le H Z5 eZ5
      clear eZ5
      refine wp_s (i := .aload_n 0) (n := 1) (pc' := 41) (st' := [.ref 114]) rfl rfl ?_
      refine wp_s (i := .dup) (n := 1) (pc' := 42) (st' := [.ref 114, .ref 114]) rfl rfl ?_
      refine wq_gi (idx := 77) (pc' := 45) rfl rfl ho_M rfl rfl ?_
      refine wp_s (i := .iconst 1) (n := 1) (pc' := 46) (st' := [dz_I 1, dz_I (Z5 114 22 0), .ref 114]) rfl rfl ?_
      refine wq_2 (i := .iadd) (z := (Z5 114 22 0) + 1) (pc' := 47) rfl rfl (op_add _ _) rfl ?_
      refine wq_pi (idx := 77) (x := (Z5 114 22 0) + 1) (pc' := 50) rfl rfl rfl ho_M rfl rfl rfl rfl (fun Z6 eZ6 => ?_)
      replace H := dz_le H Z6 eZ6
      clear eZ6
      refine wq_inc (k := 3) (d := (-8)) (x := s2.1) (ls' := [some (.ref 114), some (dz_J a1), none, some (dz_I (s2.1 + (-8)))]) (pc' := 53) rfl rfl rfl rfl ?_
      refine wp_s (i := .goto (-34)) (n := 3) (pc' := 19) (st' := []) rfl rfl ?_
      replace H := dz_back H
      exact H
  · replace H := dz_if c1 H
    refine wp_s (i := .bipush (-3)) (n := 2) (pc' := 15) (st' := [dz_I (-3)]) rfl rfl ?_
    refine wq_ri rfl rfl ?_
    replace H := dz_sm H
    exact H
-- 122
def jf_M_end (a1 : Int) (Z : dz_Z) : Option (Int × dz_Z) := if 0 ≤ dz_c a1 ∧ dz_c a1 ≤ dz_c (Z 114 22 0) then (dz_a (dz_u Z 114 22 0 a1) fun Z2 => some (Z 114 22 0, Z2)) else (some ((-1), Z))
set_option maxRecDepth 20000 in
theorem jw_M_end {X : Option (List Int32)} {D : Nat} {Q : Option Value → mm_H → Prop} (a1 : Int) (Z : dz_Z) (H : dz_p (jf_M_end a1 Z) (fun q => Q (some (dz_I q.1)) (hz_0 q.2))) : mm_Wp X (D + 1) mm_r122 0 [some (.ref 114), some (dz_I a1), none] [] (hz_0 Z) Q := by
  unfold jf_M_end at H
  refine wp_s (i := .iload_n 1) (n := 1) (pc' := 1) (st' := [dz_I a1]) rfl rfl ?_
  refine wq_3 (i := .i2l) (v' := dz_J (dz_c a1)) (pc' := 2) rfl rfl (oq_i2l' rfl) rfl ?_
  refine wp_s (i := .lconst 0) (n := 1) (pc' := 3) (st' := [dz_J 0, dz_J (dz_c a1)]) rfl rfl ?_
  refine wp_s (i := .aload_n 0) (n := 1) (pc' := 4) (st' := [.ref 114, dz_J 0, dz_J (dz_c a1)]) rfl rfl ?_
  refine wq_gi (idx := 77) (pc' := 7) rfl rfl ho_M rfl rfl ?_
  refine wq_3 (i := .i2l) (v' := dz_J (dz_c (Z 114 22 0))) (pc' := 8) rfl rfl (oq_i2l' rfl) rfl ?_
  refine wq_cs (Dq := D) (r' := mm_r120) (as0 := [dz_J (dz_c a1), dz_J 0, dz_J (dz_c (Z 114 22 0))]) (rest := []) (ls' := [some (dz_J (dz_c a1)), none, some (dz_J 0), none, some (dz_J (dz_c (Z 114 22 0))), none]) (pc' := 11) rfl rfl (by decide) rfl rfl rfl rfl rfl ?_
  refine jw_in (a' := dz_c a1) (b' := 0) (c' := dz_c (Z 114 22 0)) (dz_lc _) (by decide) (dz_lc _) ?_
  show mm_Wp X (D + 1) mm_r122 11 [some (.ref 114), some (dz_I a1), none] [dz_B (decide (0 ≤ dz_c a1 ∧ dz_c a1 ≤ dz_c (Z 114 22 0)))] (hz_0 Z) Q
  refine wq_if (p := 0 ≤ dz_c a1 ∧ dz_c a1 ≤ dz_c (Z 114 22 0)) (tt := 16) (pc' := 14) rfl rfl (cd_ne) rfl (fun c1 => ?_) (fun c1 => ?_)
  · replace H := dz_it c1 H
    refine wp_s (i := .aload_n 0) (n := 1) (pc' := 17) (st' := [.ref 114]) rfl rfl ?_
    refine wq_gi (idx := 77) (pc' := 20) rfl rfl ho_M rfl rfl ?_
    refine wq_st (k := 2) (i := .istore_n 2) (n := 1) (ls' := [some (.ref 114), some (dz_I a1), some (dz_I (Z 114 22 0))]) (pc' := 21) rfl rfl rfl rfl rfl ?_
    refine wp_s (i := .aload_n 0) (n := 1) (pc' := 22) (st' := [.ref 114]) rfl rfl ?_
    refine wp_s (i := .iload_n 1) (n := 1) (pc' := 23) (st' := [dz_I a1, .ref 114]) rfl rfl ?_
    refine wq_pi (idx := 77) (x := a1) (pc' := 26) rfl rfl rfl ho_M rfl rfl rfl rfl (fun Z2 eZ2 => ?_)
    replace H := dz_le H Z2 eZ2
    clear eZ2
    refine wp_s (i := .iload_n 2) (n := 1) (pc' := 27) (st' := [dz_I (Z 114 22 0)]) rfl rfl ?_
    refine wq_ri rfl rfl ?_
    replace H := dz_sm H
    exact H
  · replace H := dz_if c1 H
    refine wp_s (i := .iconst (-1)) (n := 1) (pc' := 15) (st' := [dz_I (-1)]) rfl rfl ?_
    refine wq_ri rfl rfl ?_
    replace H := dz_sm H
    exact H
-- 123
def jf_M_byteAt (a1 : Int) (Z : dz_Z) : Option (Int) := if dz_c (Z 114 22 0) ≤ dz_c a1 then (some (-4)) else (if 0 ≤ dz_c a1 ∧ dz_c a1 < 320 then some (Z 114 21 (dz_c a1)) else none)
set_option maxRecDepth 20000 in
theorem jw_M_byteAt {X : Option (List Int32)} {D : Nat} {Q : Option Value → mm_H → Prop} (a1 : Int) (Z : dz_Z) (H : dz_p (jf_M_byteAt a1 Z) (fun q => Q (some (dz_I q)) (hz_0 Z))) : mm_Wp X D mm_r123 0 [some (.ref 114), some (dz_I a1)] [] (hz_0 Z) Q := by
  unfold jf_M_byteAt at H
  refine wp_s (i := .iload_n 1) (n := 1) (pc' := 1) (st' := [dz_I a1]) rfl rfl ?_
  refine wp_s (i := .aload_n 0) (n := 1) (pc' := 2) (st' := [.ref 114, dz_I a1]) rfl rfl ?_
  refine wq_gi (idx := 77) (pc' := 5) rfl rfl ho_M rfl rfl ?_
  refine wq_ic (p := dz_c (Z 114 22 0) ≤ dz_c a1) (tt := 17) (pc' := 8) rfl rfl (cq_ge rfl rfl) rfl (fun c1 => ?_) (fun c1 => ?_)
  · replace H := dz_it c1 H
    refine wp_s (i := .bipush (-4)) (n := 2) (pc' := 19) (st' := [dz_I (-4)]) rfl rfl ?_
    refine wq_ri rfl rfl ?_
    replace H := dz_sm H
    exact H
  · replace H := dz_if c1 H
    refine wp_s (i := .aload_n 0) (n := 1) (pc' := 9) (st' := [.ref 114]) rfl rfl ?_
    refine wq_gr (idx := 43) (a := 126) (pc' := 12) rfl rfl ho_M rfl rfl ?_
    refine wp_s (i := .iload_n 1) (n := 1) (pc' := 13) (st' := [dz_I a1, .ref 126]) rfl rfl ?_
    obtain ⟨k2, H⟩ := dz_ck H
    refine wq_ia (j' := dz_c a1) (pc' := 14) rfl ha_M_21 rfl k2.1 k2.2 rfl ?_
    refine wp_s (i := .goto 5) (n := 3) (pc' := 19) (st' := [dz_I (Z 114 21 (dz_c a1))]) rfl rfl ?_
    refine wq_ri rfl rfl ?_
    replace H := dz_sm H
    exact H
-- 124
def jf_M_fails (a1 : Int) (Z : dz_Z) : Option (dz_Z) := if dz_c (Z 114 24 0) ≠ 0 then (some Z) else (dz_a (dz_u Z 114 24 0 a1) fun Z2 => dz_a (dz_u Z2 114 25 0 (Z2 114 27 0)) fun Z3 => some Z3)
set_option maxRecDepth 20000 in
theorem jw_M_fails {X : Option (List Int32)} {D : Nat} {Q : Option Value → mm_H → Prop} (a1 : Int) (Z : dz_Z) (H : dz_p (jf_M_fails a1 Z) (fun q => Q (none) (hz_0 q))) : mm_Wp X D mm_r124 0 [some (.ref 114), some (dz_I a1)] [] (hz_0 Z) Q := by
  unfold jf_M_fails at H
  refine wp_s (i := .aload_n 0) (n := 1) (pc' := 1) (st' := [.ref 114]) rfl rfl ?_
  refine wq_gi (idx := 85) (pc' := 4) rfl rfl ho_M rfl rfl ?_
  refine wq_if (p := dz_c (Z 114 24 0) ≠ 0) (tt := 20) (pc' := 7) rfl rfl (cz_ne rfl) rfl (fun c1 => ?_) (fun c1 => ?_)
  · replace H := dz_it c1 H
    refine wq_rv rfl rfl ?_
    replace H := dz_sm H
    exact H
  · replace H := dz_if c1 H
    refine wp_s (i := .aload_n 0) (n := 1) (pc' := 8) (st' := [.ref 114]) rfl rfl ?_
    refine wp_s (i := .iload_n 1) (n := 1) (pc' := 9) (st' := [dz_I a1, .ref 114]) rfl rfl ?_
    refine wq_pi (idx := 85) (x := a1) (pc' := 12) rfl rfl rfl ho_M rfl rfl rfl rfl (fun Z2 eZ2 => ?_)
    replace H := dz_le H Z2 eZ2
    clear eZ2
    refine wp_s (i := .aload_n 0) (n := 1) (pc' := 13) (st' := [.ref 114]) rfl rfl ?_
    refine wp_s (i := .aload_n 0) (n := 1) (pc' := 14) (st' := [.ref 114, .ref 114]) rfl rfl ?_
    refine wq_gi (idx := 88) (pc' := 17) rfl rfl ho_M rfl rfl ?_
    refine wq_pi (idx := 91) (x := Z2 114 27 0) (pc' := 20) rfl rfl rfl ho_M rfl rfl rfl rfl (fun Z3 eZ3 => ?_)
    replace H := dz_le H Z3 eZ3
    clear eZ3
    refine wq_rv rfl rfl ?_
    replace H := dz_sm H
    exact H
-- 125
def jf_M_nameHere (Z : dz_Z) : Option (Int) := dz_lp (fun (s1 : Int) => if 15 ≤ dz_c s1 then (some (Sum.inr (-4))) else (if dz_c (Z 114 28 0) ≠ 1 then (some (Sum.inr (-4))) else (if 0 ≤ dz_c (s1 + 1) ∧ dz_c (s1 + 1) < 16 then if 0 ≤ dz_c s1 ∧ dz_c s1 < 16 then Option.bind (α := Int) (if dz_c ((Z 114 26 0) - (Z 114 27 0)) ≠ dz_c ((Z 114 30 (dz_c (s1 + 1))) - (Z 114 30 (dz_c s1))) then (some 0) else (some 1)) (fun (q9 : Int) => dz_lp (fun (s10 : Int × Int) => if dz_c s10.1 = 0 then (if dz_c s10.1 = 0 then (some (Sum.inr (Sum.inl (s1 + 1)))) else (some (Sum.inr (Sum.inr s1)))) else (if dz_c ((Z 114 26 0) - (Z 114 27 0)) ≤ dz_c s10.2 then (if dz_c s10.1 = 0 then (some (Sum.inr (Sum.inl (s1 + 1)))) else (some (Sum.inr (Sum.inr s1)))) else (Option.bind (jf_M_byteAt ((Z 114 27 0) + s10.2) Z) fun q15 => if 0 ≤ dz_c ((Z 114 30 (dz_c s1)) + s10.2) ∧ dz_c ((Z 114 30 (dz_c s1)) + s10.2) < 67 then if dz_c q15 ≠ dz_c (Z 114 31 (dz_c ((Z 114 30 (dz_c s1)) + s10.2))) then (some (Sum.inl (0, s10.2 + 1))) else (some (Sum.inl (1, s10.2 + 1))) else none))) 5000 (q9, 0)) else none else none))) 5000 0
set_option maxRecDepth 20000 in
theorem jw_M_nameHere {X : Option (List Int32)} {D : Nat} {Q : Option Value → mm_H → Prop} (Z : dz_Z) (H : dz_p (jf_M_nameHere Z) (fun q => Q (some (dz_I q)) (hz_0 Z))) : mm_Wp X (D + 1) mm_r125 0 [some (.ref 114), none, none, none] [] (hz_0 Z) Q := by
  unfold jf_M_nameHere at H
  refine wp_s (i := .iconst 0) (n := 1) (pc' := 1) (st' := [dz_I 0]) rfl rfl ?_
  refine wq_st (k := 1) (i := .istore_n 1) (n := 1) (ls' := [some (.ref 114), some (dz_I 0), none, none]) (pc' := 2) rfl rfl rfl rfl rfl ?_
  refine dz_lpi (P := fun (s1 : Int) => ∀ (u2 u3 : Option Int32), mm_Wp X (D + 1) mm_r125 2 [some (.ref 114), some (dz_I s1), Option.map Value.int u2, Option.map Value.int u3] [] (hz_0 Z) Q) (fun s1 H => ?_) 5000 0 H none none
  intro u2 u3
  refine wp_s (i := .iload_n 1) (n := 1) (pc' := 3) (st' := [dz_I s1]) rfl rfl ?_
  refine wp_s (i := .bipush 15) (n := 2) (pc' := 5) (st' := [dz_I 15, dz_I s1]) rfl rfl ?_
  refine wq_ic (p := 15 ≤ dz_c s1) (tt := 118) (pc' := 8) rfl rfl (cq_ge rfl dk_15) rfl (fun c4 => ?_) (fun c4 => ?_)
  · replace H := dz_it c4 H
    refine wp_s (i := .bipush (-4)) (n := 2) (pc' := 120) (st' := [dz_I (-4)]) rfl rfl ?_
    refine wq_ri rfl rfl ?_
    replace H := dz_out H
    replace H := dz_sm H
    exact H
  · replace H := dz_if c4 H
    refine wp_s (i := .aload_n 0) (n := 1) (pc' := 9) (st' := [.ref 114]) rfl rfl ?_
    refine wq_gi (idx := 94) (pc' := 12) rfl rfl ho_M rfl rfl ?_
    refine wp_s (i := .iconst 1) (n := 1) (pc' := 13) (st' := [dz_I 1, dz_I (Z 114 28 0)]) rfl rfl ?_
    refine wq_ic (p := dz_c (Z 114 28 0) ≠ 1) (tt := 118) (pc' := 16) rfl rfl (cq_ne rfl dk_1) rfl (fun c5 => ?_) (fun c5 => ?_)
    · replace H := dz_it c5 H
      refine wp_s (i := .bipush (-4)) (n := 2) (pc' := 120) (st' := [dz_I (-4)]) rfl rfl ?_
      refine wq_ri rfl rfl ?_
      replace H := dz_out H
      replace H := dz_sm H
      exact H
    · replace H := dz_if c5 H
      refine wp_s (i := .aload_n 0) (n := 1) (pc' := 17) (st' := [.ref 114]) rfl rfl ?_
      refine wq_gi (idx := 97) (pc' := 20) rfl rfl ho_M rfl rfl ?_
      refine wp_s (i := .aload_n 0) (n := 1) (pc' := 21) (st' := [.ref 114, dz_I (Z 114 26 0)]) rfl rfl ?_
      refine wq_gi (idx := 88) (pc' := 24) rfl rfl ho_M rfl rfl ?_
      refine wq_2 (i := .isub) (z := (Z 114 26 0) - (Z 114 27 0)) (pc' := 25) rfl rfl (op_sub _ _) rfl ?_
      refine wp_s (i := .aload_n 0) (n := 1) (pc' := 26) (st' := [.ref 114, dz_I ((Z 114 26 0) - (Z 114 27 0))]) rfl rfl ?_
      refine wq_gr (idx := 46) (a := 127) (pc' := 29) rfl rfl ho_M rfl rfl ?_
      refine wp_s (i := .iload_n 1) (n := 1) (pc' := 30) (st' := [dz_I s1, .ref 127, dz_I ((Z 114 26 0) - (Z 114 27 0))]) rfl rfl ?_
      refine wp_s (i := .iconst 1) (n := 1) (pc' := 31) (st' := [dz_I 1, dz_I s1, .ref 127, dz_I ((Z 114 26 0) - (Z 114 27 0))]) rfl rfl ?_
      refine wq_2 (i := .iadd) (z := s1 + 1) (pc' := 32) rfl rfl (op_add _ _) rfl ?_
      obtain ⟨k6, H⟩ := dz_ck H
      refine wq_ia (j' := dz_c (s1 + 1)) (pc' := 33) rfl ha_M_30 rfl k6.1 k6.2 rfl ?_
      refine wp_s (i := .aload_n 0) (n := 1) (pc' := 34) (st' := [.ref 114, dz_I (Z 114 30 (dz_c (s1 + 1))), dz_I ((Z 114 26 0) - (Z 114 27 0))]) rfl rfl ?_
      refine wq_gr (idx := 46) (a := 127) (pc' := 37) rfl rfl ho_M rfl rfl ?_
      refine wp_s (i := .iload_n 1) (n := 1) (pc' := 38) (st' := [dz_I s1, .ref 127, dz_I (Z 114 30 (dz_c (s1 + 1))), dz_I ((Z 114 26 0) - (Z 114 27 0))]) rfl rfl ?_
      obtain ⟨k7, H⟩ := dz_ck H
      refine wq_ia (j' := dz_c s1) (pc' := 39) rfl ha_M_30 rfl k7.1 k7.2 rfl ?_
      refine wq_2 (i := .isub) (z := (Z 114 30 (dz_c (s1 + 1))) - (Z 114 30 (dz_c s1))) (pc' := 40) rfl rfl (op_sub _ _) rfl ?_
      refine dz_jn (P := fun (q9 : Int) => mm_Wp X (D + 1) mm_r125 48 [some (.ref 114), some (dz_I s1), Option.map Value.int u2, Option.map Value.int u3] [dz_I q9] (hz_0 Z) Q) (dz_bi H) (fun q9 H => ?_) (fun H => ?_)
      · skip
        refine wq_st (k := 2) (i := .istore_n 2) (n := 1) (ls' := [some (.ref 114), some (dz_I s1), some (dz_I q9), Option.map Value.int u3]) (pc' := 49) rfl rfl rfl rfl rfl ?_
        refine wp_s (i := .iconst 0) (n := 1) (pc' := 50) (st' := [dz_I 0]) rfl rfl ?_
        refine wq_st (k := 3) (i := .istore_n 3) (n := 1) (ls' := [some (.ref 114), some (dz_I s1), some (dz_I q9), some (dz_I 0)]) (pc' := 51) rfl rfl rfl rfl rfl ?_
        refine dz_lpi (P := fun (s10 : Int × Int) => mm_Wp X (D + 1) mm_r125 51 [some (.ref 114), some (dz_I s1), some (dz_I s10.1), some (dz_I s10.2)] [] (hz_0 Z) Q) (fun s10 H => ?_) 5000 (q9, 0) H
        refine wp_s (i := .iload_n 2) (n := 1) (pc' := 52) (st' := [dz_I s10.1]) rfl rfl ?_
        refine wq_if (p := dz_c s10.1 = 0) (tt := 106) (pc' := 55) rfl rfl (cz_eq rfl) rfl (fun c11 => ?_) (fun c11 => ?_)
        · replace H := dz_it c11 H
          refine wp_s (i := .iload_n 2) (n := 1) (pc' := 107) (st' := [dz_I s10.1]) rfl rfl ?_
          refine wq_if (p := dz_c s10.1 = 0) (tt := 112) (pc' := 110) rfl rfl (cz_eq rfl) rfl (fun c12 => ?_) (fun c12 => ?_)
          · replace H := dz_it c12 H
            refine wq_inc (k := 1) (d := 1) (x := s1) (ls' := [some (.ref 114), some (dz_I (s1 + 1)), some (dz_I s10.1), some (dz_I s10.2)]) (pc' := 115) rfl rfl rfl rfl ?_
            refine wp_s (i := .goto (-113)) (n := 3) (pc' := 2) (st' := []) rfl rfl ?_
            replace H := dz_out H
            replace H := dz_back H
            exact H (some (Int32.ofInt s10.1)) (some (Int32.ofInt s10.2))
          · replace H := dz_if c12 H
            refine wp_s (i := .iload_n 1) (n := 1) (pc' := 111) (st' := [dz_I s1]) rfl rfl ?_
            refine wq_ri rfl rfl ?_
            replace H := dz_out H
            replace H := dz_out H
            replace H := dz_sm H
            exact H
        · replace H := dz_if c11 H
          refine wp_s (i := .iload_n 3) (n := 1) (pc' := 56) (st' := [dz_I s10.2]) rfl rfl ?_
          refine wp_s (i := .aload_n 0) (n := 1) (pc' := 57) (st' := [.ref 114, dz_I s10.2]) rfl rfl ?_
          refine wq_gi (idx := 97) (pc' := 60) rfl rfl ho_M rfl rfl ?_
          refine wp_s (i := .aload_n 0) (n := 1) (pc' := 61) (st' := [.ref 114, dz_I (Z 114 26 0), dz_I s10.2]) rfl rfl ?_
          refine wq_gi (idx := 88) (pc' := 64) rfl rfl ho_M rfl rfl ?_
          refine wq_2 (i := .isub) (z := (Z 114 26 0) - (Z 114 27 0)) (pc' := 65) rfl rfl (op_sub _ _) rfl ?_
          refine wq_ic (p := dz_c ((Z 114 26 0) - (Z 114 27 0)) ≤ dz_c s10.2) (tt := 106) (pc' := 68) rfl rfl (cq_ge rfl rfl) rfl (fun c13 => ?_) (fun c13 => ?_)
          · replace H := dz_it c13 H
            refine wp_s (i := .iload_n 2) (n := 1) (pc' := 107) (st' := [dz_I s10.1]) rfl rfl ?_
            refine wq_if (p := dz_c s10.1 = 0) (tt := 112) (pc' := 110) rfl rfl (cz_eq rfl) rfl (fun c14 => ?_) (fun c14 => ?_)
            · replace H := dz_it c14 H
              refine wq_inc (k := 1) (d := 1) (x := s1) (ls' := [some (.ref 114), some (dz_I (s1 + 1)), some (dz_I s10.1), some (dz_I s10.2)]) (pc' := 115) rfl rfl rfl rfl ?_
              refine wp_s (i := .goto (-113)) (n := 3) (pc' := 2) (st' := []) rfl rfl ?_
              replace H := dz_out H
              replace H := dz_back H
              exact H (some (Int32.ofInt s10.1)) (some (Int32.ofInt s10.2))
            · replace H := dz_if c14 H
              refine wp_s (i := .iload_n 1) (n := 1) (pc' := 111) (st' := [dz_I s1]) rfl rfl ?_
              refine wq_ri rfl rfl ?_
              replace H := dz_out H
              replace H := dz_out H
              replace H := dz_sm H
              exact H
          · replace H := dz_if c13 H
            refine wp_s (i := .aload_n 0) (n := 1) (pc' := 69) (st' := [.ref 114]) rfl rfl ?_
            refine wp_s (i := .aload_n 0) (n := 1) (pc' := 70) (st' := [.ref 114, .ref 114]) rfl rfl ?_
            refine wq_gi (idx := 88) (pc' := 73) rfl rfl ho_M rfl rfl ?_
            refine wp_s (i := .iload_n 3) (n := 1) (pc' := 74) (st' := [dz_I s10.2, dz_I (Z 114 27 0), .ref 114]) rfl rfl ?_
            refine wq_2 (i := .iadd) (z := (Z 114 27 0) + s10.2) (pc' := 75) rfl rfl (op_add _ _) rfl ?_
            refine wq_cv (Dq := D) (r' := mm_r123) (as0 := [dz_I ((Z 114 27 0) + s10.2)]) (rest := []) (ls' := [some (.ref 114), some (dz_I ((Z 114 27 0) + s10.2))]) (pc' := 78) rfl rfl rfl rfl ho_M rfl rfl rfl ?_
            refine jw_M_byteAt (X := X) (D := D + 0) ((Z 114 27 0) + s10.2) Z (dz_pm (dz_bi H) (fun q15 H => ?_))
            show mm_Wp X (D + 1) mm_r125 78 [some (.ref 114), some (dz_I s1), some (dz_I s10.1), some (dz_I s10.2)] [dz_I q15] (hz_0 Z) Q
            refine wp_s (i := .aload_n 0) (n := 1) (pc' := 79) (st' := [.ref 114, dz_I q15]) rfl rfl ?_
            refine wq_gr (idx := 49) (a := 128) (pc' := 82) rfl rfl ho_M rfl rfl ?_
            refine wp_s (i := .aload_n 0) (n := 1) (pc' := 83) (st' := [.ref 114, .ref 128, dz_I q15]) rfl rfl ?_
            refine wq_gr (idx := 46) (a := 127) (pc' := 86) rfl rfl ho_M rfl rfl ?_
            refine wp_s (i := .iload_n 1) (n := 1) (pc' := 87) (st' := [dz_I s1, .ref 127, .ref 128, dz_I q15]) rfl rfl ?_
            refine wq_ia (j' := dz_c s1) (pc' := 88) rfl ha_M_30 rfl k7.1 k7.2 rfl ?_
            refine wp_s (i := .iload_n 3) (n := 1) (pc' := 89) (st' := [dz_I s10.2, dz_I (Z 114 30 (dz_c s1)), .ref 128, dz_I q15]) rfl rfl ?_
            refine wq_2 (i := .iadd) (z := (Z 114 30 (dz_c s1)) + s10.2) (pc' := 90) rfl rfl (op_add _ _) rfl ?_
            obtain ⟨k16, H⟩ := dz_ck H
            refine wq_ia (j' := dz_c ((Z 114 30 (dz_c s1)) + s10.2)) (pc' := 91) rfl ha_M_31 rfl k16.1 k16.2 rfl ?_
            refine wq_ic (p := dz_c q15 ≠ dz_c (Z 114 31 (dz_c ((Z 114 30 (dz_c s1)) + s10.2)))) (tt := 98) (pc' := 94) rfl rfl (cq_ne rfl rfl) rfl (fun c17 => ?_) (fun c17 => ?_)
            · replace H := dz_it c17 H
              refine wp_s (i := .iconst 0) (n := 1) (pc' := 99) (st' := [dz_I 0]) rfl rfl ?_
              refine wq_st (k := 2) (i := .istore_n 2) (n := 1) (ls' := [some (.ref 114), some (dz_I s1), some (dz_I 0), some (dz_I s10.2)]) (pc' := 100) rfl rfl rfl rfl rfl ?_
              refine wq_inc (k := 3) (d := 1) (x := s10.2) (ls' := [some (.ref 114), some (dz_I s1), some (dz_I 0), some (dz_I (s10.2 + 1))]) (pc' := 103) rfl rfl rfl rfl ?_
              refine wp_s (i := .goto (-52)) (n := 3) (pc' := 51) (st' := []) rfl rfl ?_
              replace H := dz_back H
              exact H
            · replace H := dz_if c17 H
              refine wp_s (i := .iconst 1) (n := 1) (pc' := 95) (st' := [dz_I 1]) rfl rfl ?_
              refine wp_s (i := .goto 4) (n := 3) (pc' := 99) (st' := [dz_I 1]) rfl rfl ?_
              refine wq_st (k := 2) (i := .istore_n 2) (n := 1) (ls' := [some (.ref 114), some (dz_I s1), some (dz_I 1), some (dz_I s10.2)]) (pc' := 100) rfl rfl rfl rfl rfl ?_
              refine wq_inc (k := 3) (d := 1) (x := s10.2) (ls' := [some (.ref 114), some (dz_I s1), some (dz_I 1), some (dz_I (s10.2 + 1))]) (pc' := 103) rfl rfl rfl rfl ?_
              refine wp_s (i := .goto (-52)) (n := 3) (pc' := 51) (st' := []) rfl rfl ?_
              replace H := dz_back H
              exact H
      · skip
        refine wq_ic (p := dz_c ((Z 114 26 0) - (Z 114 27 0)) ≠ dz_c ((Z 114 30 (dz_c (s1 + 1))) - (Z 114 30 (dz_c s1)))) (tt := 47) (pc' := 43) rfl rfl (cq_ne rfl rfl) rfl (fun c18 => ?_) (fun c18 => ?_)
        · replace H := dz_it c18 H
          refine wp_s (i := .iconst 0) (n := 1) (pc' := 48) (st' := [dz_I 0]) rfl rfl ?_
          replace H := dz_sm H
          exact H
        · replace H := dz_if c18 H
          refine wp_s (i := .iconst 1) (n := 1) (pc' := 44) (st' := [dz_I 1]) rfl rfl ?_
          refine wp_s (i := .goto 4) (n := 3) (pc' := 48) (st' := [dz_I 1]) rfl rfl ?_
          replace H := dz_sm H
          exact H
-- 126
def jf_M_step (Z : dz_Z) : Option (dz_Z) := if dz_c (Z 114 24 0) ≤ 0 then (dz_lp (fun (s2 : dz_Z) => Option.bind (jf_M_byteAt (s2 114 26 0) s2) fun q3 => if dz_c q3 ≠ 32 then (dz_a (dz_u s2 114 27 0 (s2 114 26 0)) fun Z5 => Option.bind (jf_M_byteAt (Z5 114 26 0) Z5) fun q6 => dz_a (dz_u Z5 114 29 0 0) fun Z7 => if dz_c q6 ≠ (-4) then (if ¬(97 ≤ dz_c q6 ∧ dz_c q6 ≤ 122) then (if ¬(48 ≤ dz_c q6 ∧ dz_c q6 ≤ 57) then (dz_a (dz_u Z7 114 28 0 3) fun Z11 => dz_a (dz_u Z11 114 26 0 ((Z11 114 26 0) + 1)) fun Z12 => if dz_c q6 = 59 then (some (Sum.inr Z12)) else (Option.bind (jf_M_fails 1 Z12) fun q14 => some (Sum.inr q14))) else (dz_lp (fun (s15 : dz_Z) => Option.bind (jf_M_byteAt (s15 114 26 0) s15) fun q16 => if ¬(48 ≤ dz_c q16 ∧ dz_c q16 ≤ 57) then (dz_a (dz_u s15 114 28 0 2) fun Z18 => if dz_c ((Z18 114 26 0) - (Z18 114 27 0)) ≤ 3 then (some (Sum.inr (Sum.inr Z18))) else (Option.bind (jf_M_fails 1 Z18) fun q20 => some (Sum.inr (Sum.inr q20)))) else (Option.bind (α := Int) (if 3 ≤ dz_c ((s15 114 26 0) - (s15 114 27 0)) then (some (s15 114 29 0)) else (Option.bind (jf_M_byteAt (s15 114 26 0) s15) fun q27 => some (((10 * (s15 114 29 0)) + q27) - 48))) (fun (q23 : Int) => dz_a (dz_u s15 114 29 0 q23) fun Z24 => dz_a (dz_u Z24 114 26 0 ((Z24 114 26 0) + 1)) fun Z25 => some (Sum.inl Z25)))) 5000 Z7)) else (dz_lp (fun (s28 : dz_Z) => Option.bind (jf_M_byteAt (s28 114 26 0) s28) fun q29 => if ¬(97 ≤ dz_c q29 ∧ dz_c q29 ≤ 122) then (dz_a (dz_u s28 114 28 0 1) fun Z31 => some (Sum.inr (Sum.inr Z31))) else (dz_a (dz_u s28 114 26 0 ((s28 114 26 0) + 1)) fun Z32 => some (Sum.inl Z32))) 5000 Z7)) else (dz_a (dz_u Z7 114 28 0 0) fun Z33 => some (Sum.inr Z33))) else (dz_a (dz_u s2 114 26 0 ((s2 114 26 0) + 1)) fun Z34 => some (Sum.inl Z34))) 5000 Z) else (some Z)
set_option maxRecDepth 20000 in
theorem jw_M_step {X : Option (List Int32)} {D : Nat} {Q : Option Value → mm_H → Prop} (Z : dz_Z) (H : dz_p (jf_M_step Z) (fun q => Q (none) (hz_0 q))) : mm_Wp X (D + 1) mm_r126 0 [some (.ref 114), none] [] (hz_0 Z) Q := by
  unfold jf_M_step at H
  refine wp_s (i := .aload_n 0) (n := 1) (pc' := 1) (st' := [.ref 114]) rfl rfl ?_
  refine wq_gi (idx := 85) (pc' := 4) rfl rfl ho_M rfl rfl ?_
  refine wq_if (p := dz_c (Z 114 24 0) ≤ 0) (tt := 8) (pc' := 7) rfl rfl (cz_le rfl) rfl (fun c1 => ?_) (fun c1 => ?_)
  · replace H := dz_it c1 H
    refine dz_lpi (P := fun (s2 : dz_Z) => mm_Wp X (D + 1) mm_r126 8 [some (.ref 114), none] [] (hz_0 s2) Q) (fun s2 H => ?_) 5000 Z H
    refine wp_s (i := .aload_n 0) (n := 1) (pc' := 9) (st' := [.ref 114]) rfl rfl ?_
    refine wp_s (i := .aload_n 0) (n := 1) (pc' := 10) (st' := [.ref 114, .ref 114]) rfl rfl ?_
    refine wq_gi (idx := 97) (pc' := 13) rfl rfl ho_M rfl rfl ?_
    refine wq_cv (Dq := D) (r' := mm_r123) (as0 := [dz_I (s2 114 26 0)]) (rest := []) (ls' := [some (.ref 114), some (dz_I (s2 114 26 0))]) (pc' := 16) rfl rfl rfl rfl ho_M rfl rfl rfl ?_
    refine jw_M_byteAt (X := X) (D := D + 0) (s2 114 26 0) s2 (dz_pm (dz_bi H) (fun q3 H => ?_))
    show mm_Wp X (D + 1) mm_r126 16 [some (.ref 114), none] [dz_I q3] (hz_0 s2) Q
    refine wp_s (i := .bipush 32) (n := 2) (pc' := 18) (st' := [dz_I 32, dz_I q3]) rfl rfl ?_
    refine wq_ic (p := dz_c q3 ≠ 32) (tt := 34) (pc' := 21) rfl rfl (cq_ne rfl dk_32) rfl (fun c4 => ?_) (fun c4 => ?_)
    · replace H := dz_it c4 H
      refine wp_s (i := .aload_n 0) (n := 1) (pc' := 35) (st' := [.ref 114]) rfl rfl ?_
      refine wp_s (i := .aload_n 0) (n := 1) (pc' := 36) (st' := [.ref 114, .ref 114]) rfl rfl ?_
      refine wq_gi (idx := 97) (pc' := 39) rfl rfl ho_M rfl rfl ?_
      refine wq_pi (idx := 88) (x := s2 114 26 0) (pc' := 42) rfl rfl rfl ho_M rfl rfl rfl rfl (fun Z5 eZ5 => ?_)
      replace H := dz_le H Z5 eZ5
      clear eZ5
      refine wp_s (i := .aload_n 0) (n := 1) (pc' := 43) (st' := [.ref 114]) rfl rfl ?_
      refine wp_s (i := .aload_n 0) (n := 1) (pc' := 44) (st' := [.ref 114, .ref 114]) rfl rfl ?_
      refine wq_gi (idx := 97) (pc' := 47) rfl rfl ho_M rfl rfl ?_
      refine wq_cv (Dq := D) (r' := mm_r123) (as0 := [dz_I (Z5 114 26 0)]) (rest := []) (ls' := [some (.ref 114), some (dz_I (Z5 114 26 0))]) (pc' := 50) rfl rfl rfl rfl ho_M rfl rfl rfl ?_
      refine jw_M_byteAt (X := X) (D := D + 0) (Z5 114 26 0) Z5 (dz_pm (dz_bi H) (fun q6 H => ?_))
      show mm_Wp X (D + 1) mm_r126 50 [some (.ref 114), none] [dz_I q6] (hz_0 Z5) Q
      refine wq_st (k := 1) (i := .istore_n 1) (n := 1) (ls' := [some (.ref 114), some (dz_I q6)]) (pc' := 51) rfl rfl rfl rfl rfl ?_
      refine wp_s (i := .aload_n 0) (n := 1) (pc' := 52) (st' := [.ref 114]) rfl rfl ?_
      refine wp_s (i := .iconst 0) (n := 1) (pc' := 53) (st' := [dz_I 0, .ref 114]) rfl rfl ?_
      refine wq_pi (idx := 104) (x := 0) (pc' := 56) rfl rfl rfl ho_M rfl rfl rfl rfl (fun Z7 eZ7 => ?_)
      replace H := dz_le H Z7 eZ7
      clear eZ7
      refine wp_s (i := .iload_n 1) (n := 1) (pc' := 57) (st' := [dz_I q6]) rfl rfl ?_
      refine wp_s (i := .bipush (-4)) (n := 2) (pc' := 59) (st' := [dz_I (-4), dz_I q6]) rfl rfl ?_
      refine wq_ic (p := dz_c q6 ≠ (-4)) (tt := 70) (pc' := 62) rfl rfl (cq_ne rfl dk_m4) rfl (fun c8 => ?_) (fun c8 => ?_)
      · replace H := dz_it c8 H
        refine wp_s (i := .iload_n 1) (n := 1) (pc' := 71) (st' := [dz_I q6]) rfl rfl ?_
        refine wq_3 (i := .i2l) (v' := dz_J (dz_c q6)) (pc' := 72) rfl rfl (oq_i2l' rfl) rfl ?_
        refine wp_s (i := .ldc2_w 107) (n := 3) (pc' := 75) (st' := [dz_J 97, dz_J (dz_c q6)]) rfl rfl ?_
        refine wp_s (i := .ldc2_w 109) (n := 3) (pc' := 78) (st' := [dz_J 122, dz_J 97, dz_J (dz_c q6)]) rfl rfl ?_
        refine wq_cs (Dq := D) (r' := mm_r120) (as0 := [dz_J (dz_c q6), dz_J 97, dz_J 122]) (rest := []) (ls' := [some (dz_J (dz_c q6)), none, some (dz_J 97), none, some (dz_J 122), none]) (pc' := 81) rfl rfl (by decide) rfl rfl rfl rfl rfl ?_
        refine jw_in (a' := dz_c q6) (b' := 97) (c' := 122) (dz_lc _) (by decide) (by decide) ?_
        show mm_Wp X (D + 1) mm_r126 81 [some (.ref 114), some (dz_I q6)] [dz_B (decide (97 ≤ dz_c q6 ∧ dz_c q6 ≤ 122))] (hz_0 Z7) Q
        refine wq_if (p := ¬(97 ≤ dz_c q6 ∧ dz_c q6 ≤ 122)) (tt := 126) (pc' := 84) rfl rfl (cd_eq) rfl (fun c9 => ?_) (fun c9 => ?_)
        · replace H := dz_it c9 H
          refine wp_s (i := .iload_n 1) (n := 1) (pc' := 127) (st' := [dz_I q6]) rfl rfl ?_
          refine wq_3 (i := .i2l) (v' := dz_J (dz_c q6)) (pc' := 128) rfl rfl (oq_i2l' rfl) rfl ?_
          refine wp_s (i := .ldc2_w 111) (n := 3) (pc' := 131) (st' := [dz_J 48, dz_J (dz_c q6)]) rfl rfl ?_
          refine wp_s (i := .ldc2_w 113) (n := 3) (pc' := 134) (st' := [dz_J 57, dz_J 48, dz_J (dz_c q6)]) rfl rfl ?_
          refine wq_cs (Dq := D) (r' := mm_r120) (as0 := [dz_J (dz_c q6), dz_J 48, dz_J 57]) (rest := []) (ls' := [some (dz_J (dz_c q6)), none, some (dz_J 48), none, some (dz_J 57), none]) (pc' := 137) rfl rfl (by decide) rfl rfl rfl rfl rfl ?_
          refine jw_in (a' := dz_c q6) (b' := 48) (c' := 57) (dz_lc _) (by decide) (by decide) ?_
          show mm_Wp X (D + 1) mm_r126 137 [some (.ref 114), some (dz_I q6)] [dz_B (decide (48 ≤ dz_c q6 ∧ dz_c q6 ≤ 57))] (hz_0 Z7) Q
          refine wq_if (p := ¬(48 ≤ dz_c q6 ∧ dz_c q6 ≤ 57)) (tt := 243) (pc' := 140) rfl rfl (cd_eq) rfl (fun c10 => ?_) (fun c10 => ?_)
          · replace H := dz_it c10 H
            refine wp_s (i := .aload_n 0) (n := 1) (pc' := 244) (st' := [.ref 114]) rfl rfl ?_
            refine wp_s (i := .iconst 3) (n := 1) (pc' := 245) (st' := [dz_I 3, .ref 114]) rfl rfl ?_
            refine wq_pi (idx := 94) (x := 3) (pc' := 248) rfl rfl rfl ho_M rfl rfl rfl rfl (fun Z11 eZ11 => ?_)
            replace H := dz_le H Z11 eZ11
            clear eZ11
            refine wp_s (i := .aload_n 0) (n := 1) (pc' := 249) (st' := [.ref 114]) rfl rfl ?_
            refine wp_s (i := .dup) (n := 1) (pc' := 250) (st' := [.ref 114, .ref 114]) rfl rfl ?_
            refine wq_gi (idx := 97) (pc' := 253) rfl rfl ho_M rfl rfl ?_
            refine wp_s (i := .iconst 1) (n := 1) (pc' := 254) (st' := [dz_I 1, dz_I (Z11 114 26 0), .ref 114]) rfl rfl ?_
            refine wq_2 (i := .iadd) (z := (Z11 114 26 0) + 1) (pc' := 255) rfl rfl (op_add _ _) rfl ?_
            refine wq_pi (idx := 97) (x := (Z11 114 26 0) + 1) (pc' := 258) rfl rfl rfl ho_M rfl rfl rfl rfl (fun Z12 eZ12 => ?_)
            replace H := dz_le H Z12 eZ12
            clear eZ12
            refine wp_s (i := .iload_n 1) (n := 1) (pc' := 259) (st' := [dz_I q6]) rfl rfl ?_
            refine wp_s (i := .bipush 59) (n := 2) (pc' := 261) (st' := [dz_I 59, dz_I q6]) rfl rfl ?_
            refine wq_ic (p := dz_c q6 = 59) (tt := 269) (pc' := 264) rfl rfl (cq_eq rfl dk_59) rfl (fun c13 => ?_) (fun c13 => ?_)
            · replace H := dz_it c13 H
              refine wq_rv rfl rfl ?_
              replace H := dz_out H
              replace H := dz_sm H
              exact H
            · replace H := dz_if c13 H
              refine wp_s (i := .aload_n 0) (n := 1) (pc' := 265) (st' := [.ref 114]) rfl rfl ?_
              refine wp_s (i := .iconst 1) (n := 1) (pc' := 266) (st' := [dz_I 1, .ref 114]) rfl rfl ?_
              refine wq_cv (Dq := D) (r' := mm_r124) (as0 := [dz_I 1]) (rest := []) (ls' := [some (.ref 114), some (dz_I 1)]) (pc' := 269) rfl rfl rfl rfl ho_M rfl rfl rfl ?_
              refine jw_M_fails (X := X) (D := D + 0) 1 Z12 (dz_pm (dz_bi H) (fun q14 H => ?_))
              show mm_Wp X (D + 1) mm_r126 269 [some (.ref 114), some (dz_I q6)] [] (hz_0 q14) Q
              refine wq_rv rfl rfl ?_
              replace H := dz_out H
              replace H := dz_sm H
              exact H
          · replace H := dz_if c10 H
            refine dz_lpi (P := fun (s15 : dz_Z) => mm_Wp X (D + 1) mm_r126 140 [some (.ref 114), some (dz_I q6)] [] (hz_0 s15) Q) (fun s15 H => ?_) 5000 Z7 H
            refine wp_s (i := .aload_n 0) (n := 1) (pc' := 141) (st' := [.ref 114]) rfl rfl ?_
            refine wp_s (i := .aload_n 0) (n := 1) (pc' := 142) (st' := [.ref 114, .ref 114]) rfl rfl ?_
            refine wq_gi (idx := 97) (pc' := 145) rfl rfl ho_M rfl rfl ?_
            refine wq_cv (Dq := D) (r' := mm_r123) (as0 := [dz_I (s15 114 26 0)]) (rest := []) (ls' := [some (.ref 114), some (dz_I (s15 114 26 0))]) (pc' := 148) rfl rfl rfl rfl ho_M rfl rfl rfl ?_
            refine jw_M_byteAt (X := X) (D := D + 0) (s15 114 26 0) s15 (dz_pm (dz_bi H) (fun q16 H => ?_))
            show mm_Wp X (D + 1) mm_r126 148 [some (.ref 114), some (dz_I q6)] [dz_I q16] (hz_0 s15) Q
            refine wq_3 (i := .i2l) (v' := dz_J (dz_c q16)) (pc' := 149) rfl rfl (oq_i2l' rfl) rfl ?_
            refine wp_s (i := .ldc2_w 111) (n := 3) (pc' := 152) (st' := [dz_J 48, dz_J (dz_c q16)]) rfl rfl ?_
            refine wp_s (i := .ldc2_w 113) (n := 3) (pc' := 155) (st' := [dz_J 57, dz_J 48, dz_J (dz_c q16)]) rfl rfl ?_
            refine wq_cs (Dq := D) (r' := mm_r120) (as0 := [dz_J (dz_c q16), dz_J 48, dz_J 57]) (rest := []) (ls' := [some (dz_J (dz_c q16)), none, some (dz_J 48), none, some (dz_J 57), none]) (pc' := 158) rfl rfl (by decide) rfl rfl rfl rfl rfl ?_
            refine jw_in (a' := dz_c q16) (b' := 48) (c' := 57) (dz_lc _) (by decide) (by decide) ?_
            show mm_Wp X (D + 1) mm_r126 158 [some (.ref 114), some (dz_I q6)] [dz_B (decide (48 ≤ dz_c q16 ∧ dz_c q16 ≤ 57))] (hz_0 s15) Q
            refine wq_if (p := ¬(48 ≤ dz_c q16 ∧ dz_c q16 ≤ 57)) (tt := 217) (pc' := 161) rfl rfl (cd_eq) rfl (fun c17 => ?_) (fun c17 => ?_)
            · replace H := dz_it c17 H
              refine wp_s (i := .aload_n 0) (n := 1) (pc' := 218) (st' := [.ref 114]) rfl rfl ?_
              refine wp_s (i := .iconst 2) (n := 1) (pc' := 219) (st' := [dz_I 2, .ref 114]) rfl rfl ?_
              refine wq_pi (idx := 94) (x := 2) (pc' := 222) rfl rfl rfl ho_M rfl rfl rfl rfl (fun Z18 eZ18 => ?_)
              replace H := dz_le H Z18 eZ18
              clear eZ18
              refine wp_s (i := .aload_n 0) (n := 1) (pc' := 223) (st' := [.ref 114]) rfl rfl ?_
              refine wq_gi (idx := 97) (pc' := 226) rfl rfl ho_M rfl rfl ?_
              refine wp_s (i := .aload_n 0) (n := 1) (pc' := 227) (st' := [.ref 114, dz_I (Z18 114 26 0)]) rfl rfl ?_
              refine wq_gi (idx := 88) (pc' := 230) rfl rfl ho_M rfl rfl ?_
              refine wq_2 (i := .isub) (z := (Z18 114 26 0) - (Z18 114 27 0)) (pc' := 231) rfl rfl (op_sub _ _) rfl ?_
              refine wp_s (i := .iconst 3) (n := 1) (pc' := 232) (st' := [dz_I 3, dz_I ((Z18 114 26 0) - (Z18 114 27 0))]) rfl rfl ?_
              refine wq_ic (p := dz_c ((Z18 114 26 0) - (Z18 114 27 0)) ≤ 3) (tt := 269) (pc' := 235) rfl rfl (cq_le rfl dk_3) rfl (fun c19 => ?_) (fun c19 => ?_)
              · replace H := dz_it c19 H
                refine wq_rv rfl rfl ?_
                replace H := dz_out H
                replace H := dz_out H
                replace H := dz_sm H
                exact H
              · replace H := dz_if c19 H
                refine wp_s (i := .aload_n 0) (n := 1) (pc' := 236) (st' := [.ref 114]) rfl rfl ?_
                refine wp_s (i := .iconst 1) (n := 1) (pc' := 237) (st' := [dz_I 1, .ref 114]) rfl rfl ?_
                refine wq_cv (Dq := D) (r' := mm_r124) (as0 := [dz_I 1]) (rest := []) (ls' := [some (.ref 114), some (dz_I 1)]) (pc' := 240) rfl rfl rfl rfl ho_M rfl rfl rfl ?_
                refine jw_M_fails (X := X) (D := D + 0) 1 Z18 (dz_pm (dz_bi H) (fun q20 H => ?_))
                show mm_Wp X (D + 1) mm_r126 240 [some (.ref 114), some (dz_I q6)] [] (hz_0 q20) Q
                refine wp_s (i := .goto 29) (n := 3) (pc' := 269) (st' := []) rfl rfl ?_
                refine wq_rv rfl rfl ?_
                replace H := dz_out H
                replace H := dz_out H
                replace H := dz_sm H
                exact H
            · replace H := dz_if c17 H
              refine wp_s (i := .aload_n 0) (n := 1) (pc' := 162) (st' := [.ref 114]) rfl rfl ?_
              refine wp_s (i := .aload_n 0) (n := 1) (pc' := 163) (st' := [.ref 114, .ref 114]) rfl rfl ?_
              refine wq_gi (idx := 97) (pc' := 166) rfl rfl ho_M rfl rfl ?_
              refine wp_s (i := .aload_n 0) (n := 1) (pc' := 167) (st' := [.ref 114, dz_I (s15 114 26 0), .ref 114]) rfl rfl ?_
              refine wq_gi (idx := 88) (pc' := 170) rfl rfl ho_M rfl rfl ?_
              refine wq_2 (i := .isub) (z := (s15 114 26 0) - (s15 114 27 0)) (pc' := 171) rfl rfl (op_sub _ _) rfl ?_
              refine wp_s (i := .iconst 3) (n := 1) (pc' := 172) (st' := [dz_I 3, dz_I ((s15 114 26 0) - (s15 114 27 0)), .ref 114]) rfl rfl ?_
              refine dz_jn (P := fun (q23 : Int) => mm_Wp X (D + 1) mm_r126 201 [some (.ref 114), some (dz_I q6)] [dz_I q23, .ref 114] (hz_0 s15) Q) (dz_bi H) (fun q23 H => ?_) (fun H => ?_)
              · skip
                refine wq_pi (idx := 104) (x := q23) (pc' := 204) rfl rfl rfl ho_M rfl rfl rfl rfl (fun Z24 eZ24 => ?_)
                replace H := dz_le H Z24 eZ24
                clear eZ24
                refine wp_s (i := .aload_n 0) (n := 1) (pc' := 205) (st' := [.ref 114]) rfl rfl ?_
                refine wp_s (i := .dup) (n := 1) (pc' := 206) (st' := [.ref 114, .ref 114]) rfl rfl ?_
                refine wq_gi (idx := 97) (pc' := 209) rfl rfl ho_M rfl rfl ?_
                refine wp_s (i := .iconst 1) (n := 1) (pc' := 210) (st' := [dz_I 1, dz_I (Z24 114 26 0), .ref 114]) rfl rfl ?_
                refine wq_2 (i := .iadd) (z := (Z24 114 26 0) + 1) (pc' := 211) rfl rfl (op_add _ _) rfl ?_
                refine wq_pi (idx := 97) (x := (Z24 114 26 0) + 1) (pc' := 214) rfl rfl rfl ho_M rfl rfl rfl rfl (fun Z25 eZ25 => ?_)
                replace H := dz_le H Z25 eZ25
                clear eZ25
                refine wp_s (i := .goto (-74)) (n := 3) (pc' := 140) (st' := []) rfl rfl ?_
                replace H := dz_back H
                exact H
              · skip
                refine wq_ic (p := 3 ≤ dz_c ((s15 114 26 0) - (s15 114 27 0))) (tt := 197) (pc' := 175) rfl rfl (cq_ge rfl dk_3) rfl (fun c26 => ?_) (fun c26 => ?_)
                · replace H := dz_it c26 H
                  refine wp_s (i := .aload_n 0) (n := 1) (pc' := 198) (st' := [.ref 114, .ref 114]) rfl rfl ?_
                  refine wq_gi (idx := 104) (pc' := 201) rfl rfl ho_M rfl rfl ?_
                  replace H := dz_sm H
                  exact H
                · replace H := dz_if c26 H
                  refine wp_s (i := .bipush 10) (n := 2) (pc' := 177) (st' := [dz_I 10, .ref 114]) rfl rfl ?_
                  refine wp_s (i := .aload_n 0) (n := 1) (pc' := 178) (st' := [.ref 114, dz_I 10, .ref 114]) rfl rfl ?_
                  refine wq_gi (idx := 104) (pc' := 181) rfl rfl ho_M rfl rfl ?_
                  refine wq_2 (i := .imul) (z := 10 * (s15 114 29 0)) (pc' := 182) rfl rfl (op_mul _ _) rfl ?_
                  refine wp_s (i := .aload_n 0) (n := 1) (pc' := 183) (st' := [.ref 114, dz_I (10 * (s15 114 29 0)), .ref 114]) rfl rfl ?_
                  refine wp_s (i := .aload_n 0) (n := 1) (pc' := 184) (st' := [.ref 114, .ref 114, dz_I (10 * (s15 114 29 0)), .ref 114]) rfl rfl ?_
                  refine wq_gi (idx := 97) (pc' := 187) rfl rfl ho_M rfl rfl ?_
                  refine wq_cv (Dq := D) (r' := mm_r123) (as0 := [dz_I (s15 114 26 0)]) (rest := [dz_I (10 * (s15 114 29 0)), .ref 114]) (ls' := [some (.ref 114), some (dz_I (s15 114 26 0))]) (pc' := 190) rfl rfl rfl rfl ho_M rfl rfl rfl ?_
                  refine jw_M_byteAt (X := X) (D := D + 0) (s15 114 26 0) s15 (dz_pm (dz_bi H) (fun q27 H => ?_))
                  show mm_Wp X (D + 1) mm_r126 190 [some (.ref 114), some (dz_I q6)] [dz_I q27, dz_I (10 * (s15 114 29 0)), .ref 114] (hz_0 s15) Q
                  refine wq_2 (i := .iadd) (z := (10 * (s15 114 29 0)) + q27) (pc' := 191) rfl rfl (op_add _ _) rfl ?_
                  refine wp_s (i := .bipush 48) (n := 2) (pc' := 193) (st' := [dz_I 48, dz_I ((10 * (s15 114 29 0)) + q27), .ref 114]) rfl rfl ?_
                  refine wq_2 (i := .isub) (z := ((10 * (s15 114 29 0)) + q27) - 48) (pc' := 194) rfl rfl (op_sub _ _) rfl ?_
                  refine wp_s (i := .goto 7) (n := 3) (pc' := 201) (st' := [dz_I (((10 * (s15 114 29 0)) + q27) - 48), .ref 114]) rfl rfl ?_
                  replace H := dz_sm H
                  exact H
        · replace H := dz_if c9 H
          refine dz_lpi (P := fun (s28 : dz_Z) => mm_Wp X (D + 1) mm_r126 84 [some (.ref 114), some (dz_I q6)] [] (hz_0 s28) Q) (fun s28 H => ?_) 5000 Z7 H
          refine wp_s (i := .aload_n 0) (n := 1) (pc' := 85) (st' := [.ref 114]) rfl rfl ?_
          refine wp_s (i := .aload_n 0) (n := 1) (pc' := 86) (st' := [.ref 114, .ref 114]) rfl rfl ?_
          refine wq_gi (idx := 97) (pc' := 89) rfl rfl ho_M rfl rfl ?_
          refine wq_cv (Dq := D) (r' := mm_r123) (as0 := [dz_I (s28 114 26 0)]) (rest := []) (ls' := [some (.ref 114), some (dz_I (s28 114 26 0))]) (pc' := 92) rfl rfl rfl rfl ho_M rfl rfl rfl ?_
          refine jw_M_byteAt (X := X) (D := D + 0) (s28 114 26 0) s28 (dz_pm (dz_bi H) (fun q29 H => ?_))
          show mm_Wp X (D + 1) mm_r126 92 [some (.ref 114), some (dz_I q6)] [dz_I q29] (hz_0 s28) Q
          refine wq_3 (i := .i2l) (v' := dz_J (dz_c q29)) (pc' := 93) rfl rfl (oq_i2l' rfl) rfl ?_
          refine wp_s (i := .ldc2_w 107) (n := 3) (pc' := 96) (st' := [dz_J 97, dz_J (dz_c q29)]) rfl rfl ?_
          refine wp_s (i := .ldc2_w 109) (n := 3) (pc' := 99) (st' := [dz_J 122, dz_J 97, dz_J (dz_c q29)]) rfl rfl ?_
          refine wq_cs (Dq := D) (r' := mm_r120) (as0 := [dz_J (dz_c q29), dz_J 97, dz_J 122]) (rest := []) (ls' := [some (dz_J (dz_c q29)), none, some (dz_J 97), none, some (dz_J 122), none]) (pc' := 102) rfl rfl (by decide) rfl rfl rfl rfl rfl ?_
          refine jw_in (a' := dz_c q29) (b' := 97) (c' := 122) (dz_lc _) (by decide) (by decide) ?_
          show mm_Wp X (D + 1) mm_r126 102 [some (.ref 114), some (dz_I q6)] [dz_B (decide (97 ≤ dz_c q29 ∧ dz_c q29 ≤ 122))] (hz_0 s28) Q
          refine wq_if (p := ¬(97 ≤ dz_c q29 ∧ dz_c q29 ≤ 122)) (tt := 118) (pc' := 105) rfl rfl (cd_eq) rfl (fun c30 => ?_) (fun c30 => ?_)
          · replace H := dz_it c30 H
            refine wp_s (i := .aload_n 0) (n := 1) (pc' := 119) (st' := [.ref 114]) rfl rfl ?_
            refine wp_s (i := .iconst 1) (n := 1) (pc' := 120) (st' := [dz_I 1, .ref 114]) rfl rfl ?_
            refine wq_pi (idx := 94) (x := 1) (pc' := 123) rfl rfl rfl ho_M rfl rfl rfl rfl (fun Z31 eZ31 => ?_)
            replace H := dz_le H Z31 eZ31
            clear eZ31
            refine wp_s (i := .goto 146) (n := 3) (pc' := 269) (st' := []) rfl rfl ?_
            refine wq_rv rfl rfl ?_
            replace H := dz_out H
            replace H := dz_out H
            replace H := dz_sm H
            exact H
          · replace H := dz_if c30 H
            refine wp_s (i := .aload_n 0) (n := 1) (pc' := 106) (st' := [.ref 114]) rfl rfl ?_
            refine wp_s (i := .dup) (n := 1) (pc' := 107) (st' := [.ref 114, .ref 114]) rfl rfl ?_
            refine wq_gi (idx := 97) (pc' := 110) rfl rfl ho_M rfl rfl ?_
            refine wp_s (i := .iconst 1) (n := 1) (pc' := 111) (st' := [dz_I 1, dz_I (s28 114 26 0), .ref 114]) rfl rfl ?_
            refine wq_2 (i := .iadd) (z := (s28 114 26 0) + 1) (pc' := 112) rfl rfl (op_add _ _) rfl ?_
            refine wq_pi (idx := 97) (x := (s28 114 26 0) + 1) (pc' := 115) rfl rfl rfl ho_M rfl rfl rfl rfl (fun Z32 eZ32 => ?_)
            replace H := dz_le H Z32 eZ32
            clear eZ32
            refine wp_s (i := .goto (-31)) (n := 3) (pc' := 84) (st' := []) rfl rfl ?_
            replace H := dz_back H
            exact H
      · replace H := dz_if c8 H
        refine wp_s (i := .aload_n 0) (n := 1) (pc' := 63) (st' := [.ref 114]) rfl rfl ?_
        refine wp_s (i := .iconst 0) (n := 1) (pc' := 64) (st' := [dz_I 0, .ref 114]) rfl rfl ?_
        refine wq_pi (idx := 94) (x := 0) (pc' := 67) rfl rfl rfl ho_M rfl rfl rfl rfl (fun Z33 eZ33 => ?_)
        replace H := dz_le H Z33 eZ33
        clear eZ33
        refine wp_s (i := .goto 202) (n := 3) (pc' := 269) (st' := []) rfl rfl ?_
        refine wq_rv rfl rfl ?_
        replace H := dz_out H
        replace H := dz_sm H
        exact H
    · replace H := dz_if c4 H
      refine wp_s (i := .aload_n 0) (n := 1) (pc' := 22) (st' := [.ref 114]) rfl rfl ?_
      refine wp_s (i := .dup) (n := 1) (pc' := 23) (st' := [.ref 114, .ref 114]) rfl rfl ?_
      refine wq_gi (idx := 97) (pc' := 26) rfl rfl ho_M rfl rfl ?_
      refine wp_s (i := .iconst 1) (n := 1) (pc' := 27) (st' := [dz_I 1, dz_I (s2 114 26 0), .ref 114]) rfl rfl ?_
      refine wq_2 (i := .iadd) (z := (s2 114 26 0) + 1) (pc' := 28) rfl rfl (op_add _ _) rfl ?_
      refine wq_pi (idx := 97) (x := (s2 114 26 0) + 1) (pc' := 31) rfl rfl rfl ho_M rfl rfl rfl rfl (fun Z34 eZ34 => ?_)
      replace H := dz_le H Z34 eZ34
      clear eZ34
      refine wp_s (i := .goto (-23)) (n := 3) (pc' := 8) (st' := []) rfl rfl ?_
      replace H := dz_back H
      exact H
  · replace H := dz_if c1 H
    refine wq_rv rfl rfl ?_
    replace H := dz_sm H
    exact H
-- 127
def jf_M_looks (a1 : Int) (a2 : Int) (Z : dz_Z) : Option (dz_Z) := Option.bind (α := dz_Z) (if dz_c (Z 114 24 0) ≠ 0 then (some Z) else (if dz_c (Z 114 28 0) = 2 then (some Z) else (Option.bind (jf_M_fails 2 Z) fun q10 => some q10))) (fun (q4 : dz_Z) => if dz_c (q4 114 24 0) ≠ 0 then (some q4) else (if dz_c a1 ≤ dz_c (q4 114 29 0) ∧ dz_c (q4 114 29 0) ≤ dz_c a2 then (some q4) else (Option.bind (jf_M_fails 3 q4) fun q7 => some q7)))
set_option maxRecDepth 20000 in
theorem jw_M_looks {X : Option (List Int32)} {D : Nat} {Q : Option Value → mm_H → Prop} (a1 : Int) (a2 : Int) (Z : dz_Z) (H : dz_p (jf_M_looks a1 a2 Z) (fun q => Q (none) (hz_0 q))) : mm_Wp X (D + 1) mm_r127 0 [some (.ref 114), some (dz_I a1), some (dz_I a2)] [] (hz_0 Z) Q := by
  unfold jf_M_looks at H
  refine wp_s (i := .aload_n 0) (n := 1) (pc' := 1) (st' := [.ref 114]) rfl rfl ?_
  refine wq_gi (idx := 85) (pc' := 4) rfl rfl ho_M rfl rfl ?_
  refine dz_jn (P := fun (q4 : dz_Z) => mm_Wp X (D + 1) mm_r127 20 [some (.ref 114), some (dz_I a1), some (dz_I a2)] [] (hz_0 q4) Q) (dz_bi H) (fun q4 H => ?_) (fun H => ?_)
  · skip
    refine wp_s (i := .aload_n 0) (n := 1) (pc' := 21) (st' := [.ref 114]) rfl rfl ?_
    refine wq_gi (idx := 85) (pc' := 24) rfl rfl ho_M rfl rfl ?_
    refine wq_if (p := dz_c (q4 114 24 0) ≠ 0) (tt := 47) (pc' := 27) rfl rfl (cz_ne rfl) rfl (fun c5 => ?_) (fun c5 => ?_)
    · replace H := dz_it c5 H
      refine wq_rv rfl rfl ?_
      replace H := dz_sm H
      exact H
    · replace H := dz_if c5 H
      refine wp_s (i := .aload_n 0) (n := 1) (pc' := 28) (st' := [.ref 114]) rfl rfl ?_
      refine wq_gi (idx := 104) (pc' := 31) rfl rfl ho_M rfl rfl ?_
      refine wq_3 (i := .i2l) (v' := dz_J (dz_c (q4 114 29 0))) (pc' := 32) rfl rfl (oq_i2l' rfl) rfl ?_
      refine wp_s (i := .iload_n 1) (n := 1) (pc' := 33) (st' := [dz_I a1, dz_J (dz_c (q4 114 29 0))]) rfl rfl ?_
      refine wq_3 (i := .i2l) (v' := dz_J (dz_c a1)) (pc' := 34) rfl rfl (oq_i2l' rfl) rfl ?_
      refine wp_s (i := .iload_n 2) (n := 1) (pc' := 35) (st' := [dz_I a2, dz_J (dz_c a1), dz_J (dz_c (q4 114 29 0))]) rfl rfl ?_
      refine wq_3 (i := .i2l) (v' := dz_J (dz_c a2)) (pc' := 36) rfl rfl (oq_i2l' rfl) rfl ?_
      refine wq_cs (Dq := D) (r' := mm_r120) (as0 := [dz_J (dz_c (q4 114 29 0)), dz_J (dz_c a1), dz_J (dz_c a2)]) (rest := []) (ls' := [some (dz_J (dz_c (q4 114 29 0))), none, some (dz_J (dz_c a1)), none, some (dz_J (dz_c a2)), none]) (pc' := 39) rfl rfl (by decide) rfl rfl rfl rfl rfl ?_
      refine jw_in (a' := dz_c (q4 114 29 0)) (b' := dz_c a1) (c' := dz_c a2) (dz_lc _) (dz_lc _) (dz_lc _) ?_
      show mm_Wp X (D + 1) mm_r127 39 [some (.ref 114), some (dz_I a1), some (dz_I a2)] [dz_B (decide (dz_c a1 ≤ dz_c (q4 114 29 0) ∧ dz_c (q4 114 29 0) ≤ dz_c a2))] (hz_0 q4) Q
      refine wq_if (p := dz_c a1 ≤ dz_c (q4 114 29 0) ∧ dz_c (q4 114 29 0) ≤ dz_c a2) (tt := 47) (pc' := 42) rfl rfl (cd_ne) rfl (fun c6 => ?_) (fun c6 => ?_)
      · replace H := dz_it c6 H
        refine wq_rv rfl rfl ?_
        replace H := dz_sm H
        exact H
      · replace H := dz_if c6 H
        refine wp_s (i := .aload_n 0) (n := 1) (pc' := 43) (st' := [.ref 114]) rfl rfl ?_
        refine wp_s (i := .iconst 3) (n := 1) (pc' := 44) (st' := [dz_I 3, .ref 114]) rfl rfl ?_
        refine wq_cv (Dq := D) (r' := mm_r124) (as0 := [dz_I 3]) (rest := []) (ls' := [some (.ref 114), some (dz_I 3)]) (pc' := 47) rfl rfl rfl rfl ho_M rfl rfl rfl ?_
        refine jw_M_fails (X := X) (D := D + 0) 3 q4 (dz_pm (dz_bi H) (fun q7 H => ?_))
        show mm_Wp X (D + 1) mm_r127 47 [some (.ref 114), some (dz_I a1), some (dz_I a2)] [] (hz_0 q7) Q
        refine wq_rv rfl rfl ?_
        replace H := dz_sm H
        exact H
  · skip
    refine wq_if (p := dz_c (Z 114 24 0) ≠ 0) (tt := 20) (pc' := 7) rfl rfl (cz_ne rfl) rfl (fun c8 => ?_) (fun c8 => ?_)
    · replace H := dz_it c8 H
      replace H := dz_sm H
      exact H
    · replace H := dz_if c8 H
      refine wp_s (i := .aload_n 0) (n := 1) (pc' := 8) (st' := [.ref 114]) rfl rfl ?_
      refine wq_gi (idx := 94) (pc' := 11) rfl rfl ho_M rfl rfl ?_
      refine wp_s (i := .iconst 2) (n := 1) (pc' := 12) (st' := [dz_I 2, dz_I (Z 114 28 0)]) rfl rfl ?_
      refine wq_ic (p := dz_c (Z 114 28 0) = 2) (tt := 20) (pc' := 15) rfl rfl (cq_eq rfl dk_2) rfl (fun c9 => ?_) (fun c9 => ?_)
      · replace H := dz_it c9 H
        replace H := dz_sm H
        exact H
      · replace H := dz_if c9 H
        refine wp_s (i := .aload_n 0) (n := 1) (pc' := 16) (st' := [.ref 114]) rfl rfl ?_
        refine wp_s (i := .iconst 2) (n := 1) (pc' := 17) (st' := [dz_I 2, .ref 114]) rfl rfl ?_
        refine wq_cv (Dq := D) (r' := mm_r124) (as0 := [dz_I 2]) (rest := []) (ls' := [some (.ref 114), some (dz_I 2)]) (pc' := 20) rfl rfl rfl rfl ho_M rfl rfl rfl ?_
        refine jw_M_fails (X := X) (D := D + 0) 2 Z (dz_pm (dz_bi H) (fun q10 H => ?_))
        show mm_Wp X (D + 1) mm_r127 20 [some (.ref 114), some (dz_I a1), some (dz_I a2)] [] (hz_0 q10) Q
        replace H := dz_sm H
        exact H
-- 128
def jf_M_number (a1 : Int) (a2 : Int) (Z : dz_Z) : Option (Int × dz_Z) := Option.bind (jf_M_looks a1 a2 Z) fun q1 => Option.bind (α := Int) (if dz_c (q1 114 24 0) ≠ 0 then (some a1) else (some (q1 114 29 0))) (fun (q3 : Int) => Option.bind (jf_M_step q1) fun q4 => some (q3, q4))
set_option maxRecDepth 20000 in
theorem jw_M_number {X : Option (List Int32)} {D : Nat} {Q : Option Value → mm_H → Prop} (a1 : Int) (a2 : Int) (Z : dz_Z) (H : dz_p (jf_M_number a1 a2 Z) (fun q => Q (some (dz_I q.1)) (hz_0 q.2))) : mm_Wp X (D + 2) mm_r128 0 [some (.ref 114), some (dz_I a1), some (dz_I a2), none] [] (hz_0 Z) Q := by
  unfold jf_M_number at H
  refine wp_s (i := .aload_n 0) (n := 1) (pc' := 1) (st' := [.ref 114]) rfl rfl ?_
  refine wp_s (i := .iload_n 1) (n := 1) (pc' := 2) (st' := [dz_I a1, .ref 114]) rfl rfl ?_
  refine wp_s (i := .iload_n 2) (n := 1) (pc' := 3) (st' := [dz_I a2, dz_I a1, .ref 114]) rfl rfl ?_
  refine wq_cv (Dq := (D + 1)) (r' := mm_r127) (as0 := [dz_I a1, dz_I a2]) (rest := []) (ls' := [some (.ref 114), some (dz_I a1), some (dz_I a2)]) (pc' := 6) rfl rfl rfl rfl ho_M rfl rfl rfl ?_
  refine jw_M_looks (X := X) (D := D + 0) a1 a2 Z (dz_pm (dz_bi H) (fun q1 H => ?_))
  show mm_Wp X (D + 2) mm_r128 6 [some (.ref 114), some (dz_I a1), some (dz_I a2), none] [] (hz_0 q1) Q
  refine wp_s (i := .aload_n 0) (n := 1) (pc' := 7) (st' := [.ref 114]) rfl rfl ?_
  refine wq_gi (idx := 85) (pc' := 10) rfl rfl ho_M rfl rfl ?_
  refine dz_jn (P := fun (q3 : Int) => mm_Wp X (D + 2) mm_r128 21 [some (.ref 114), some (dz_I a1), some (dz_I a2), none] [dz_I q3] (hz_0 q1) Q) (dz_bi H) (fun q3 H => ?_) (fun H => ?_)
  · skip
    refine wq_st (k := 3) (i := .istore_n 3) (n := 1) (ls' := [some (.ref 114), some (dz_I a1), some (dz_I a2), some (dz_I q3)]) (pc' := 22) rfl rfl rfl rfl rfl ?_
    refine wp_s (i := .aload_n 0) (n := 1) (pc' := 23) (st' := [.ref 114]) rfl rfl ?_
    refine wq_cv (Dq := (D + 1)) (r' := mm_r126) (as0 := []) (rest := []) (ls' := [some (.ref 114), none]) (pc' := 26) rfl rfl rfl rfl ho_M rfl rfl rfl ?_
    refine jw_M_step (X := X) (D := D + 0) q1 (dz_pm (dz_bi H) (fun q4 H => ?_))
    show mm_Wp X (D + 2) mm_r128 26 [some (.ref 114), some (dz_I a1), some (dz_I a2), some (dz_I q3)] [] (hz_0 q4) Q
    refine wp_s (i := .iload_n 3) (n := 1) (pc' := 27) (st' := [dz_I q3]) rfl rfl ?_
    refine wq_ri rfl rfl ?_
    replace H := dz_sm H
    exact H
  · skip
    refine wq_if (p := dz_c (q1 114 24 0) ≠ 0) (tt := 20) (pc' := 13) rfl rfl (cz_ne rfl) rfl (fun c5 => ?_) (fun c5 => ?_)
    · replace H := dz_it c5 H
      refine wp_s (i := .iload_n 1) (n := 1) (pc' := 21) (st' := [dz_I a1]) rfl rfl ?_
      replace H := dz_sm H
      exact H
    · replace H := dz_if c5 H
      refine wp_s (i := .aload_n 0) (n := 1) (pc' := 14) (st' := [.ref 114]) rfl rfl ?_
      refine wq_gi (idx := 104) (pc' := 17) rfl rfl ho_M rfl rfl ?_
      refine wp_s (i := .goto 4) (n := 3) (pc' := 21) (st' := [dz_I (q1 114 29 0)]) rfl rfl ?_
      replace H := dz_sm H
      exact H
-- 129
def jf_M_readWay (a1 : Int) (Z : dz_Z) : Option (Int × dz_Z) := Option.bind (jf_M_nameHere Z) fun q1 => if dz_c q1 ≠ 7 then (if dz_c q1 ≠ 2 then (Option.bind (α := dz_Z) (if dz_c q1 = 8 then (some Z) else (Option.bind (jf_M_fails 2 Z) fun q9 => some q9)) (fun (q6 : dz_Z) => Option.bind (jf_M_step q6) fun q7 => some (20, q7))) else (Option.bind (jf_M_step Z) fun q10 => Option.bind (jf_M_number 0 7 q10) fun q11 => Option.bind (α := Int) (if dz_c q11.1 ≤ dz_c (q11.2 114 19 0) then (some (q11.2 114 19 0)) else (some q11.1)) (fun (q13 : Int) => dz_a (dz_u q11.2 114 19 0 q13) fun Z14 => some (10 + q11.1, Z14)))) else (Option.bind (jf_M_step Z) fun q16 => Option.bind (jf_M_looks 0 4 q16) fun q17 => Option.bind (α := dz_Z) (if dz_c (q17 114 24 0) ≠ 0 then (some q17) else (if dz_c a1 < dz_c (q17 114 29 0) then (some q17) else (Option.bind (jf_M_fails 3 q17) fun q32 => some q32))) (fun (q21 : dz_Z) => Option.bind (α := Int) (if dz_c (q21 114 24 0) ≠ 0 then (some 0) else (some (q21 114 29 0))) (fun (q23 : Int) => Option.bind (α := Int) (if dz_c q23 ≤ dz_c (q21 114 18 0) then (some (q21 114 18 0)) else (some q23)) (fun (q25 : Int) => dz_a (dz_u q21 114 18 0 q25) fun Z26 => Option.bind (jf_M_step Z26) fun q27 => some (q23, q27)))))
set_option maxRecDepth 20000 in
theorem jw_M_readWay {X : Option (List Int32)} {D : Nat} {Q : Option Value → mm_H → Prop} (a1 : Int) (Z : dz_Z) (H : dz_p (jf_M_readWay a1 Z) (fun q => Q (some (dz_I q.1)) (hz_0 q.2))) : mm_Wp X (D + 3) mm_r129 0 [some (.ref 114), some (dz_I a1), none, none] [] (hz_0 Z) Q := by
  unfold jf_M_readWay at H
  refine wp_s (i := .aload_n 0) (n := 1) (pc' := 1) (st' := [.ref 114]) rfl rfl ?_
  refine wq_cv (Dq := (D + 2)) (r' := mm_r125) (as0 := []) (rest := []) (ls' := [some (.ref 114), none, none, none]) (pc' := 4) rfl rfl rfl rfl ho_M rfl rfl rfl ?_
  refine jw_M_nameHere (X := X) (D := D + 1) Z (dz_pm (dz_bi H) (fun q1 H => ?_))
  show mm_Wp X (D + 3) mm_r129 4 [some (.ref 114), some (dz_I a1), none, none] [dz_I q1] (hz_0 Z) Q
  refine wq_st (k := 2) (i := .istore_n 2) (n := 1) (ls' := [some (.ref 114), some (dz_I a1), some (dz_I q1), none]) (pc' := 5) rfl rfl rfl rfl rfl ?_
  refine wp_s (i := .iload_n 2) (n := 1) (pc' := 6) (st' := [dz_I q1]) rfl rfl ?_
  refine wp_s (i := .bipush 7) (n := 2) (pc' := 8) (st' := [dz_I 7, dz_I q1]) rfl rfl ?_
  refine wq_ic (p := dz_c q1 ≠ 7) (tt := 83) (pc' := 11) rfl rfl (cq_ne rfl dk_7) rfl (fun c2 => ?_) (fun c2 => ?_)
  · replace H := dz_it c2 H
    refine wp_s (i := .iload_n 2) (n := 1) (pc' := 84) (st' := [dz_I q1]) rfl rfl ?_
    refine wp_s (i := .iconst 2) (n := 1) (pc' := 85) (st' := [dz_I 2, dz_I q1]) rfl rfl ?_
    refine wq_ic (p := dz_c q1 ≠ 2) (tt := 125) (pc' := 88) rfl rfl (cq_ne rfl dk_2) rfl (fun c3 => ?_) (fun c3 => ?_)
    · replace H := dz_it c3 H
      refine wp_s (i := .iload_n 2) (n := 1) (pc' := 126) (st' := [dz_I q1]) rfl rfl ?_
      refine wp_s (i := .bipush 8) (n := 2) (pc' := 128) (st' := [dz_I 8, dz_I q1]) rfl rfl ?_
      refine dz_jn (P := fun (q6 : dz_Z) => mm_Wp X (D + 3) mm_r129 136 [some (.ref 114), some (dz_I a1), some (dz_I q1), none] [] (hz_0 q6) Q) (dz_bi H) (fun q6 H => ?_) (fun H => ?_)
      · skip
        refine wp_s (i := .aload_n 0) (n := 1) (pc' := 137) (st' := [.ref 114]) rfl rfl ?_
        refine wq_cv (Dq := (D + 2)) (r' := mm_r126) (as0 := []) (rest := []) (ls' := [some (.ref 114), none]) (pc' := 140) rfl rfl rfl rfl ho_M rfl rfl rfl ?_
        refine jw_M_step (X := X) (D := D + 1) q6 (dz_pm (dz_bi H) (fun q7 H => ?_))
        show mm_Wp X (D + 3) mm_r129 140 [some (.ref 114), some (dz_I a1), some (dz_I q1), none] [] (hz_0 q7) Q
        refine wp_s (i := .bipush 20) (n := 2) (pc' := 142) (st' := [dz_I 20]) rfl rfl ?_
        refine wq_ri rfl rfl ?_
        replace H := dz_sm H
        exact H
      · skip
        refine wq_ic (p := dz_c q1 = 8) (tt := 136) (pc' := 131) rfl rfl (cq_eq rfl dk_8) rfl (fun c8 => ?_) (fun c8 => ?_)
        · replace H := dz_it c8 H
          replace H := dz_sm H
          exact H
        · replace H := dz_if c8 H
          refine wp_s (i := .aload_n 0) (n := 1) (pc' := 132) (st' := [.ref 114]) rfl rfl ?_
          refine wp_s (i := .iconst 2) (n := 1) (pc' := 133) (st' := [dz_I 2, .ref 114]) rfl rfl ?_
          refine wq_cv (Dq := (D + 2)) (r' := mm_r124) (as0 := [dz_I 2]) (rest := []) (ls' := [some (.ref 114), some (dz_I 2)]) (pc' := 136) rfl rfl rfl rfl ho_M rfl rfl rfl ?_
          refine jw_M_fails (X := X) (D := D + 2) 2 Z (dz_pm (dz_bi H) (fun q9 H => ?_))
          show mm_Wp X (D + 3) mm_r129 136 [some (.ref 114), some (dz_I a1), some (dz_I q1), none] [] (hz_0 q9) Q
          replace H := dz_sm H
          exact H
    · replace H := dz_if c3 H
      refine wp_s (i := .aload_n 0) (n := 1) (pc' := 89) (st' := [.ref 114]) rfl rfl ?_
      refine wq_cv (Dq := (D + 2)) (r' := mm_r126) (as0 := []) (rest := []) (ls' := [some (.ref 114), none]) (pc' := 92) rfl rfl rfl rfl ho_M rfl rfl rfl ?_
      refine jw_M_step (X := X) (D := D + 1) Z (dz_pm (dz_bi H) (fun q10 H => ?_))
      show mm_Wp X (D + 3) mm_r129 92 [some (.ref 114), some (dz_I a1), some (dz_I q1), none] [] (hz_0 q10) Q
      refine wp_s (i := .aload_n 0) (n := 1) (pc' := 93) (st' := [.ref 114]) rfl rfl ?_
      refine wp_s (i := .iconst 0) (n := 1) (pc' := 94) (st' := [dz_I 0, .ref 114]) rfl rfl ?_
      refine wp_s (i := .bipush 7) (n := 2) (pc' := 96) (st' := [dz_I 7, dz_I 0, .ref 114]) rfl rfl ?_
      refine wq_cv (Dq := (D + 2)) (r' := mm_r128) (as0 := [dz_I 0, dz_I 7]) (rest := []) (ls' := [some (.ref 114), some (dz_I 0), some (dz_I 7), none]) (pc' := 99) rfl rfl rfl rfl ho_M rfl rfl rfl ?_
      refine jw_M_number (X := X) (D := D + 0) 0 7 q10 (dz_pm (dz_bi H) (fun q11 H => ?_))
      show mm_Wp X (D + 3) mm_r129 99 [some (.ref 114), some (dz_I a1), some (dz_I q1), none] [dz_I q11.1] (hz_0 q11.2) Q
      refine wq_st (k := 3) (i := .istore_n 3) (n := 1) (ls' := [some (.ref 114), some (dz_I a1), some (dz_I q1), some (dz_I q11.1)]) (pc' := 100) rfl rfl rfl rfl rfl ?_
      refine wp_s (i := .aload_n 0) (n := 1) (pc' := 101) (st' := [.ref 114]) rfl rfl ?_
      refine wp_s (i := .iload_n 3) (n := 1) (pc' := 102) (st' := [dz_I q11.1, .ref 114]) rfl rfl ?_
      refine wp_s (i := .aload_n 0) (n := 1) (pc' := 103) (st' := [.ref 114, dz_I q11.1, .ref 114]) rfl rfl ?_
      refine wq_gi (idx := 137) (pc' := 106) rfl rfl ho_M rfl rfl ?_
      refine dz_jn (P := fun (q13 : Int) => mm_Wp X (D + 3) mm_r129 117 [some (.ref 114), some (dz_I a1), some (dz_I q1), some (dz_I q11.1)] [dz_I q13, .ref 114] (hz_0 q11.2) Q) (dz_bi H) (fun q13 H => ?_) (fun H => ?_)
      · skip
        refine wq_pi (idx := 137) (x := q13) (pc' := 120) rfl rfl rfl ho_M rfl rfl rfl rfl (fun Z14 eZ14 => ?_)
        replace H := dz_le H Z14 eZ14
        clear eZ14
        refine wp_s (i := .bipush 10) (n := 2) (pc' := 122) (st' := [dz_I 10]) rfl rfl ?_
        refine wp_s (i := .iload_n 3) (n := 1) (pc' := 123) (st' := [dz_I q11.1, dz_I 10]) rfl rfl ?_
        refine wq_2 (i := .iadd) (z := 10 + q11.1) (pc' := 124) rfl rfl (op_add _ _) rfl ?_
        refine wq_ri rfl rfl ?_
        replace H := dz_sm H
        exact H
      · skip
        refine wq_ic (p := dz_c q11.1 ≤ dz_c (q11.2 114 19 0)) (tt := 113) (pc' := 109) rfl rfl (cq_le rfl rfl) rfl (fun c15 => ?_) (fun c15 => ?_)
        · replace H := dz_it c15 H
          refine wp_s (i := .aload_n 0) (n := 1) (pc' := 114) (st' := [.ref 114, .ref 114]) rfl rfl ?_
          refine wq_gi (idx := 137) (pc' := 117) rfl rfl ho_M rfl rfl ?_
          replace H := dz_sm H
          exact H
        · replace H := dz_if c15 H
          refine wp_s (i := .iload_n 3) (n := 1) (pc' := 110) (st' := [dz_I q11.1, .ref 114]) rfl rfl ?_
          refine wp_s (i := .goto 7) (n := 3) (pc' := 117) (st' := [dz_I q11.1, .ref 114]) rfl rfl ?_
          replace H := dz_sm H
          exact H
  · replace H := dz_if c2 H
    refine wp_s (i := .aload_n 0) (n := 1) (pc' := 12) (st' := [.ref 114]) rfl rfl ?_
    refine wq_cv (Dq := (D + 2)) (r' := mm_r126) (as0 := []) (rest := []) (ls' := [some (.ref 114), none]) (pc' := 15) rfl rfl rfl rfl ho_M rfl rfl rfl ?_
    refine jw_M_step (X := X) (D := D + 1) Z (dz_pm (dz_bi H) (fun q16 H => ?_))
    show mm_Wp X (D + 3) mm_r129 15 [some (.ref 114), some (dz_I a1), some (dz_I q1), none] [] (hz_0 q16) Q
    refine wp_s (i := .aload_n 0) (n := 1) (pc' := 16) (st' := [.ref 114]) rfl rfl ?_
    refine wp_s (i := .iconst 0) (n := 1) (pc' := 17) (st' := [dz_I 0, .ref 114]) rfl rfl ?_
    refine wp_s (i := .iconst 4) (n := 1) (pc' := 18) (st' := [dz_I 4, dz_I 0, .ref 114]) rfl rfl ?_
    refine wq_cv (Dq := (D + 2)) (r' := mm_r127) (as0 := [dz_I 0, dz_I 4]) (rest := []) (ls' := [some (.ref 114), some (dz_I 0), some (dz_I 4)]) (pc' := 21) rfl rfl rfl rfl ho_M rfl rfl rfl ?_
    refine jw_M_looks (X := X) (D := D + 1) 0 4 q16 (dz_pm (dz_bi H) (fun q17 H => ?_))
    show mm_Wp X (D + 3) mm_r129 21 [some (.ref 114), some (dz_I a1), some (dz_I q1), none] [] (hz_0 q17) Q
    refine wp_s (i := .aload_n 0) (n := 1) (pc' := 22) (st' := [.ref 114]) rfl rfl ?_
    refine wq_gi (idx := 85) (pc' := 25) rfl rfl ho_M rfl rfl ?_
    refine dz_jn (P := fun (q21 : dz_Z) => mm_Wp X (D + 3) mm_r129 41 [some (.ref 114), some (dz_I a1), some (dz_I q1), none] [] (hz_0 q21) Q) (dz_bi H) (fun q21 H => ?_) (fun H => ?_)
    · skip
      refine wp_s (i := .aload_n 0) (n := 1) (pc' := 42) (st' := [.ref 114]) rfl rfl ?_
      refine wq_gi (idx := 85) (pc' := 45) rfl rfl ho_M rfl rfl ?_
      refine dz_jn (P := fun (q23 : Int) => mm_Wp X (D + 3) mm_r129 56 [some (.ref 114), some (dz_I a1), some (dz_I q1), none] [dz_I q23] (hz_0 q21) Q) (dz_bi H) (fun q23 H => ?_) (fun H => ?_)
      · skip
        refine wq_st (k := 3) (i := .istore_n 3) (n := 1) (ls' := [some (.ref 114), some (dz_I a1), some (dz_I q1), some (dz_I q23)]) (pc' := 57) rfl rfl rfl rfl rfl ?_
        refine wp_s (i := .aload_n 0) (n := 1) (pc' := 58) (st' := [.ref 114]) rfl rfl ?_
        refine wp_s (i := .iload_n 3) (n := 1) (pc' := 59) (st' := [dz_I q23, .ref 114]) rfl rfl ?_
        refine wp_s (i := .aload_n 0) (n := 1) (pc' := 60) (st' := [.ref 114, dz_I q23, .ref 114]) rfl rfl ?_
        refine wq_gi (idx := 130) (pc' := 63) rfl rfl ho_M rfl rfl ?_
        refine dz_jn (P := fun (q25 : Int) => mm_Wp X (D + 3) mm_r129 74 [some (.ref 114), some (dz_I a1), some (dz_I q1), some (dz_I q23)] [dz_I q25, .ref 114] (hz_0 q21) Q) (dz_bi H) (fun q25 H => ?_) (fun H => ?_)
        · skip
          refine wq_pi (idx := 130) (x := q25) (pc' := 77) rfl rfl rfl ho_M rfl rfl rfl rfl (fun Z26 eZ26 => ?_)
          replace H := dz_le H Z26 eZ26
          clear eZ26
          refine wp_s (i := .aload_n 0) (n := 1) (pc' := 78) (st' := [.ref 114]) rfl rfl ?_
          refine wq_cv (Dq := (D + 2)) (r' := mm_r126) (as0 := []) (rest := []) (ls' := [some (.ref 114), none]) (pc' := 81) rfl rfl rfl rfl ho_M rfl rfl rfl ?_
          refine jw_M_step (X := X) (D := D + 1) Z26 (dz_pm (dz_bi H) (fun q27 H => ?_))
          show mm_Wp X (D + 3) mm_r129 81 [some (.ref 114), some (dz_I a1), some (dz_I q1), some (dz_I q23)] [] (hz_0 q27) Q
          refine wp_s (i := .iload_n 3) (n := 1) (pc' := 82) (st' := [dz_I q23]) rfl rfl ?_
          refine wq_ri rfl rfl ?_
          replace H := dz_sm H
          exact H
        · skip
          refine wq_ic (p := dz_c q23 ≤ dz_c (q21 114 18 0)) (tt := 70) (pc' := 66) rfl rfl (cq_le rfl rfl) rfl (fun c28 => ?_) (fun c28 => ?_)
          · replace H := dz_it c28 H
            refine wp_s (i := .aload_n 0) (n := 1) (pc' := 71) (st' := [.ref 114, .ref 114]) rfl rfl ?_
            refine wq_gi (idx := 130) (pc' := 74) rfl rfl ho_M rfl rfl ?_
            replace H := dz_sm H
            exact H
          · replace H := dz_if c28 H
            refine wp_s (i := .iload_n 3) (n := 1) (pc' := 67) (st' := [dz_I q23, .ref 114]) rfl rfl ?_
            refine wp_s (i := .goto 7) (n := 3) (pc' := 74) (st' := [dz_I q23, .ref 114]) rfl rfl ?_
            replace H := dz_sm H
            exact H
      · skip
        refine wq_if (p := dz_c (q21 114 24 0) ≠ 0) (tt := 55) (pc' := 48) rfl rfl (cz_ne rfl) rfl (fun c29 => ?_) (fun c29 => ?_)
        · replace H := dz_it c29 H
          refine wp_s (i := .iconst 0) (n := 1) (pc' := 56) (st' := [dz_I 0]) rfl rfl ?_
          replace H := dz_sm H
          exact H
        · replace H := dz_if c29 H
          refine wp_s (i := .aload_n 0) (n := 1) (pc' := 49) (st' := [.ref 114]) rfl rfl ?_
          refine wq_gi (idx := 104) (pc' := 52) rfl rfl ho_M rfl rfl ?_
          refine wp_s (i := .goto 4) (n := 3) (pc' := 56) (st' := [dz_I (q21 114 29 0)]) rfl rfl ?_
          replace H := dz_sm H
          exact H
    · skip
      refine wq_if (p := dz_c (q17 114 24 0) ≠ 0) (tt := 41) (pc' := 28) rfl rfl (cz_ne rfl) rfl (fun c30 => ?_) (fun c30 => ?_)
      · replace H := dz_it c30 H
        replace H := dz_sm H
        exact H
      · replace H := dz_if c30 H
        refine wp_s (i := .aload_n 0) (n := 1) (pc' := 29) (st' := [.ref 114]) rfl rfl ?_
        refine wq_gi (idx := 104) (pc' := 32) rfl rfl ho_M rfl rfl ?_
        refine wp_s (i := .iload_n 1) (n := 1) (pc' := 33) (st' := [dz_I a1, dz_I (q17 114 29 0)]) rfl rfl ?_
        refine wq_ic (p := dz_c a1 < dz_c (q17 114 29 0)) (tt := 41) (pc' := 36) rfl rfl (cq_gt rfl rfl) rfl (fun c31 => ?_) (fun c31 => ?_)
        · replace H := dz_it c31 H
          replace H := dz_sm H
          exact H
        · replace H := dz_if c31 H
          refine wp_s (i := .aload_n 0) (n := 1) (pc' := 37) (st' := [.ref 114]) rfl rfl ?_
          refine wp_s (i := .iconst 3) (n := 1) (pc' := 38) (st' := [dz_I 3, .ref 114]) rfl rfl ?_
          refine wq_cv (Dq := (D + 2)) (r' := mm_r124) (as0 := [dz_I 3]) (rest := []) (ls' := [some (.ref 114), some (dz_I 3)]) (pc' := 41) rfl rfl rfl rfl ho_M rfl rfl rfl ?_
          refine jw_M_fails (X := X) (D := D + 2) 3 q17 (dz_pm (dz_bi H) (fun q32 H => ?_))
          show mm_Wp X (D + 3) mm_r129 41 [some (.ref 114), some (dz_I a1), some (dz_I q1), none] [] (hz_0 q32) Q
          replace H := dz_sm H
          exact H
-- 130
def jf_M_readCup (a1 : Int) (Z : dz_Z) : Option (dz_Z) := Option.bind (jf_M_nameHere Z) fun q1 => if 0 ≤ dz_c (q1 - 9) ∧ dz_c (q1 - 9) ≤ 5 then (Option.bind (jf_M_step Z) fun q3 => if 0 ≤ dz_c (10 + a1) ∧ dz_c (10 + a1) < 140 then dz_a (dz_u q3 114 11 (dz_c (10 + a1)) (q1 - 9)) fun Z5 => if 0 ≤ dz_c (26 + a1) ∧ dz_c (26 + a1) < 140 then dz_a (dz_u Z5 114 11 (dz_c (26 + a1)) (-4)) fun Z7 => Option.bind (α := dz_Z) (if ¬(1 ≤ dz_c (q1 - 9) ∧ dz_c (q1 - 9) ≤ 4) then (some Z7) else (Option.bind (jf_M_number 1 30 Z7) fun q34 => if 0 ≤ dz_c (18 + a1) ∧ dz_c (18 + a1) < 140 then dz_a (dz_u q34.2 114 11 (dz_c (18 + a1)) q34.1) fun Z36 => some Z36 else none)) (fun (q12 : dz_Z) => if dz_c (q1 - 9) ≠ 4 then (some q12) else (Option.bind (jf_M_looks 0 7 q12) fun q14 => Option.bind (α := dz_Z) (if dz_c (q14 114 24 0) ≠ 0 then (some q14) else (if dz_c (q14 114 29 0) ≠ dz_c a1 then (some q14) else (Option.bind (jf_M_fails 3 q14) fun q32 => some q32))) (fun (q18 : dz_Z) => Option.bind (α := Int) (if dz_c (q18 114 24 0) ≠ 0 then (some 0) else (some (q18 114 29 0))) (fun (q20 : Int) => dz_a (dz_u q18 114 11 (dz_c (26 + a1)) q20) fun Z21 => Option.bind (α := Int) (if dz_c (Z21 114 29 0) ≤ dz_c (Z21 114 19 0) then (some (Z21 114 19 0)) else (if dz_c (Z21 114 24 0) ≠ 0 then (some (Z21 114 19 0)) else (some (Z21 114 29 0)))) (fun (q24 : Int) => dz_a (dz_u Z21 114 19 0 q24) fun Z25 => Option.bind (jf_M_step Z25) fun q26 => some q26))))) else none else none) else (Option.bind (jf_M_fails 2 Z) fun q37 => some q37)
set_option maxRecDepth 20000 in
theorem jw_M_readCup {X : Option (List Int32)} {D : Nat} {Q : Option Value → mm_H → Prop} (a1 : Int) (Z : dz_Z) (H : dz_p (jf_M_readCup a1 Z) (fun q => Q (none) (hz_0 q))) : mm_Wp X (D + 3) mm_r130 0 [some (.ref 114), some (dz_I a1), none] [] (hz_0 Z) Q := by
  unfold jf_M_readCup at H
  refine wp_s (i := .aload_n 0) (n := 1) (pc' := 1) (st' := [.ref 114]) rfl rfl ?_
  refine wq_cv (Dq := (D + 2)) (r' := mm_r125) (as0 := []) (rest := []) (ls' := [some (.ref 114), none, none, none]) (pc' := 4) rfl rfl rfl rfl ho_M rfl rfl rfl ?_
  refine jw_M_nameHere (X := X) (D := D + 1) Z (dz_pm (dz_bi H) (fun q1 H => ?_))
  show mm_Wp X (D + 3) mm_r130 4 [some (.ref 114), some (dz_I a1), none] [dz_I q1] (hz_0 Z) Q
  refine wp_s (i := .bipush 9) (n := 2) (pc' := 6) (st' := [dz_I 9, dz_I q1]) rfl rfl ?_
  refine wq_2 (i := .isub) (z := q1 - 9) (pc' := 7) rfl rfl (op_sub _ _) rfl ?_
  refine wq_st (k := 2) (i := .istore_n 2) (n := 1) (ls' := [some (.ref 114), some (dz_I a1), some (dz_I (q1 - 9))]) (pc' := 8) rfl rfl rfl rfl rfl ?_
  refine wp_s (i := .iload_n 2) (n := 1) (pc' := 9) (st' := [dz_I (q1 - 9)]) rfl rfl ?_
  refine wq_3 (i := .i2l) (v' := dz_J (dz_c (q1 - 9))) (pc' := 10) rfl rfl (oq_i2l' rfl) rfl ?_
  refine wp_s (i := .lconst 0) (n := 1) (pc' := 11) (st' := [dz_J 0, dz_J (dz_c (q1 - 9))]) rfl rfl ?_
  refine wp_s (i := .ldc2_w 140) (n := 3) (pc' := 14) (st' := [dz_J 5, dz_J 0, dz_J (dz_c (q1 - 9))]) rfl rfl ?_
  refine wq_cs (Dq := (D + 2)) (r' := mm_r120) (as0 := [dz_J (dz_c (q1 - 9)), dz_J 0, dz_J 5]) (rest := []) (ls' := [some (dz_J (dz_c (q1 - 9))), none, some (dz_J 0), none, some (dz_J 5), none]) (pc' := 17) rfl rfl (by decide) rfl rfl rfl rfl rfl ?_
  refine jw_in (a' := dz_c (q1 - 9)) (b' := 0) (c' := 5) (dz_lc _) (by decide) (by decide) ?_
  show mm_Wp X (D + 3) mm_r130 17 [some (.ref 114), some (dz_I a1), some (dz_I (q1 - 9))] [dz_B (decide (0 ≤ dz_c (q1 - 9) ∧ dz_c (q1 - 9) ≤ 5))] (hz_0 Z) Q
  refine wq_if (p := 0 ≤ dz_c (q1 - 9) ∧ dz_c (q1 - 9) ≤ 5) (tt := 26) (pc' := 20) rfl rfl (cd_ne) rfl (fun c2 => ?_) (fun c2 => ?_)
  · replace H := dz_it c2 H
    refine wp_s (i := .aload_n 0) (n := 1) (pc' := 27) (st' := [.ref 114]) rfl rfl ?_
    refine wq_cv (Dq := (D + 2)) (r' := mm_r126) (as0 := []) (rest := []) (ls' := [some (.ref 114), none]) (pc' := 30) rfl rfl rfl rfl ho_M rfl rfl rfl ?_
    refine jw_M_step (X := X) (D := D + 1) Z (dz_pm (dz_bi H) (fun q3 H => ?_))
    show mm_Wp X (D + 3) mm_r130 30 [some (.ref 114), some (dz_I a1), some (dz_I (q1 - 9))] [] (hz_0 q3) Q
    refine wp_s (i := .aload_n 0) (n := 1) (pc' := 31) (st' := [.ref 114]) rfl rfl ?_
    refine wq_gr (idx := 25) (a := 120) (pc' := 34) rfl rfl ho_M rfl rfl ?_
    refine wp_s (i := .bipush 10) (n := 2) (pc' := 36) (st' := [dz_I 10, .ref 120]) rfl rfl ?_
    refine wp_s (i := .iload_n 1) (n := 1) (pc' := 37) (st' := [dz_I a1, dz_I 10, .ref 120]) rfl rfl ?_
    refine wq_2 (i := .iadd) (z := 10 + a1) (pc' := 38) rfl rfl (op_add _ _) rfl ?_
    refine wp_s (i := .iload_n 2) (n := 1) (pc' := 39) (st' := [dz_I (q1 - 9), dz_I (10 + a1), .ref 120]) rfl rfl ?_
    obtain ⟨k4, H⟩ := dz_ck H
    refine wq_is (j' := dz_c (10 + a1)) (x := q1 - 9) (pc' := 40) rfl ha_M_11 rfl k4.1 k4.2 rfl (fun Z5 eZ5 => ?_)
    replace H := dz_le H Z5 eZ5
    clear eZ5
    refine wp_s (i := .aload_n 0) (n := 1) (pc' := 41) (st' := [.ref 114]) rfl rfl ?_
    refine wq_gr (idx := 25) (a := 120) (pc' := 44) rfl rfl ho_M rfl rfl ?_
    refine wp_s (i := .bipush 26) (n := 2) (pc' := 46) (st' := [dz_I 26, .ref 120]) rfl rfl ?_
    refine wp_s (i := .iload_n 1) (n := 1) (pc' := 47) (st' := [dz_I a1, dz_I 26, .ref 120]) rfl rfl ?_
    refine wq_2 (i := .iadd) (z := 26 + a1) (pc' := 48) rfl rfl (op_add _ _) rfl ?_
    refine wp_s (i := .bipush (-4)) (n := 2) (pc' := 50) (st' := [dz_I (-4), dz_I (26 + a1), .ref 120]) rfl rfl ?_
    obtain ⟨k6, H⟩ := dz_ck H
    refine wq_is (j' := dz_c (26 + a1)) (x := (-4)) (pc' := 51) rfl ha_M_11 rfl k6.1 k6.2 rfl (fun Z7 eZ7 => ?_)
    replace H := dz_le H Z7 eZ7
    clear eZ7
    refine wp_s (i := .iload_n 2) (n := 1) (pc' := 52) (st' := [dz_I (q1 - 9)]) rfl rfl ?_
    refine wq_3 (i := .i2l) (v' := dz_J (dz_c (q1 - 9))) (pc' := 53) rfl rfl (oq_i2l' rfl) rfl ?_
    refine wp_s (i := .lconst 1) (n := 1) (pc' := 54) (st' := [dz_J 1, dz_J (dz_c (q1 - 9))]) rfl rfl ?_
    refine wp_s (i := .ldc2_w 142) (n := 3) (pc' := 57) (st' := [dz_J 4, dz_J 1, dz_J (dz_c (q1 - 9))]) rfl rfl ?_
    refine wq_cs (Dq := (D + 2)) (r' := mm_r120) (as0 := [dz_J (dz_c (q1 - 9)), dz_J 1, dz_J 4]) (rest := []) (ls' := [some (dz_J (dz_c (q1 - 9))), none, some (dz_J 1), none, some (dz_J 4), none]) (pc' := 60) rfl rfl (by decide) rfl rfl rfl rfl rfl ?_
    refine jw_in (a' := dz_c (q1 - 9)) (b' := 1) (c' := 4) (dz_lc _) (by decide) (by decide) ?_
    show mm_Wp X (D + 3) mm_r130 60 [some (.ref 114), some (dz_I a1), some (dz_I (q1 - 9))] [dz_B (decide (1 ≤ dz_c (q1 - 9) ∧ dz_c (q1 - 9) ≤ 4))] (hz_0 Z7) Q
    refine dz_jn (P := fun (q12 : dz_Z) => mm_Wp X (D + 3) mm_r130 79 [some (.ref 114), some (dz_I a1), some (dz_I (q1 - 9))] [] (hz_0 q12) Q) (dz_bi H) (fun q12 H => ?_) (fun H => ?_)
    · skip
      refine wp_s (i := .iload_n 2) (n := 1) (pc' := 80) (st' := [dz_I (q1 - 9)]) rfl rfl ?_
      refine wp_s (i := .iconst 4) (n := 1) (pc' := 81) (st' := [dz_I 4, dz_I (q1 - 9)]) rfl rfl ?_
      refine wq_ic (p := dz_c (q1 - 9) ≠ 4) (tt := 172) (pc' := 84) rfl rfl (cq_ne rfl dk_4) rfl (fun c13 => ?_) (fun c13 => ?_)
      · replace H := dz_it c13 H
        refine wq_rv rfl rfl ?_
        replace H := dz_sm H
        exact H
      · replace H := dz_if c13 H
        refine wp_s (i := .aload_n 0) (n := 1) (pc' := 85) (st' := [.ref 114]) rfl rfl ?_
        refine wp_s (i := .iconst 0) (n := 1) (pc' := 86) (st' := [dz_I 0, .ref 114]) rfl rfl ?_
        refine wp_s (i := .bipush 7) (n := 2) (pc' := 88) (st' := [dz_I 7, dz_I 0, .ref 114]) rfl rfl ?_
        refine wq_cv (Dq := (D + 2)) (r' := mm_r127) (as0 := [dz_I 0, dz_I 7]) (rest := []) (ls' := [some (.ref 114), some (dz_I 0), some (dz_I 7)]) (pc' := 91) rfl rfl rfl rfl ho_M rfl rfl rfl ?_
        refine jw_M_looks (X := X) (D := D + 1) 0 7 q12 (dz_pm (dz_bi H) (fun q14 H => ?_))
        show mm_Wp X (D + 3) mm_r130 91 [some (.ref 114), some (dz_I a1), some (dz_I (q1 - 9))] [] (hz_0 q14) Q
        refine wp_s (i := .aload_n 0) (n := 1) (pc' := 92) (st' := [.ref 114]) rfl rfl ?_
        refine wq_gi (idx := 85) (pc' := 95) rfl rfl ho_M rfl rfl ?_
        refine dz_jn (P := fun (q18 : dz_Z) => mm_Wp X (D + 3) mm_r130 111 [some (.ref 114), some (dz_I a1), some (dz_I (q1 - 9))] [] (hz_0 q18) Q) (dz_bi H) (fun q18 H => ?_) (fun H => ?_)
        · skip
          refine wp_s (i := .aload_n 0) (n := 1) (pc' := 112) (st' := [.ref 114]) rfl rfl ?_
          refine wq_gr (idx := 25) (a := 120) (pc' := 115) rfl rfl ho_M rfl rfl ?_
          refine wp_s (i := .bipush 26) (n := 2) (pc' := 117) (st' := [dz_I 26, .ref 120]) rfl rfl ?_
          refine wp_s (i := .iload_n 1) (n := 1) (pc' := 118) (st' := [dz_I a1, dz_I 26, .ref 120]) rfl rfl ?_
          refine wq_2 (i := .iadd) (z := 26 + a1) (pc' := 119) rfl rfl (op_add _ _) rfl ?_
          refine wp_s (i := .aload_n 0) (n := 1) (pc' := 120) (st' := [.ref 114, dz_I (26 + a1), .ref 120]) rfl rfl ?_
          refine wq_gi (idx := 85) (pc' := 123) rfl rfl ho_M rfl rfl ?_
          refine dz_jn (P := fun (q20 : Int) => mm_Wp X (D + 3) mm_r130 134 [some (.ref 114), some (dz_I a1), some (dz_I (q1 - 9))] [dz_I q20, dz_I (26 + a1), .ref 120] (hz_0 q18) Q) (dz_bi H) (fun q20 H => ?_) (fun H => ?_)
          · skip
            refine wq_is (j' := dz_c (26 + a1)) (x := q20) (pc' := 135) rfl ha_M_11 rfl k6.1 k6.2 rfl (fun Z21 eZ21 => ?_)
            replace H := dz_le H Z21 eZ21
            clear eZ21
            refine wp_s (i := .aload_n 0) (n := 1) (pc' := 136) (st' := [.ref 114]) rfl rfl ?_
            refine wp_s (i := .aload_n 0) (n := 1) (pc' := 137) (st' := [.ref 114, .ref 114]) rfl rfl ?_
            refine wq_gi (idx := 104) (pc' := 140) rfl rfl ho_M rfl rfl ?_
            refine wp_s (i := .aload_n 0) (n := 1) (pc' := 141) (st' := [.ref 114, dz_I (Z21 114 29 0), .ref 114]) rfl rfl ?_
            refine wq_gi (idx := 137) (pc' := 144) rfl rfl ho_M rfl rfl ?_
            refine dz_jn (P := fun (q24 : Int) => mm_Wp X (D + 3) mm_r130 165 [some (.ref 114), some (dz_I a1), some (dz_I (q1 - 9))] [dz_I q24, .ref 114] (hz_0 Z21) Q) (dz_bi H) (fun q24 H => ?_) (fun H => ?_)
            · skip
              refine wq_pi (idx := 137) (x := q24) (pc' := 168) rfl rfl rfl ho_M rfl rfl rfl rfl (fun Z25 eZ25 => ?_)
              replace H := dz_le H Z25 eZ25
              clear eZ25
              refine wp_s (i := .aload_n 0) (n := 1) (pc' := 169) (st' := [.ref 114]) rfl rfl ?_
              refine wq_cv (Dq := (D + 2)) (r' := mm_r126) (as0 := []) (rest := []) (ls' := [some (.ref 114), none]) (pc' := 172) rfl rfl rfl rfl ho_M rfl rfl rfl ?_
              refine jw_M_step (X := X) (D := D + 1) Z25 (dz_pm (dz_bi H) (fun q26 H => ?_))
              show mm_Wp X (D + 3) mm_r130 172 [some (.ref 114), some (dz_I a1), some (dz_I (q1 - 9))] [] (hz_0 q26) Q
              refine wq_rv rfl rfl ?_
              replace H := dz_sm H
              exact H
            · skip
              refine wq_ic (p := dz_c (Z21 114 29 0) ≤ dz_c (Z21 114 19 0)) (tt := 161) (pc' := 147) rfl rfl (cq_le rfl rfl) rfl (fun c27 => ?_) (fun c27 => ?_)
              · replace H := dz_it c27 H
                refine wp_s (i := .aload_n 0) (n := 1) (pc' := 162) (st' := [.ref 114, .ref 114]) rfl rfl ?_
                refine wq_gi (idx := 137) (pc' := 165) rfl rfl ho_M rfl rfl ?_
                replace H := dz_sm H
                exact H
              · replace H := dz_if c27 H
                refine wp_s (i := .aload_n 0) (n := 1) (pc' := 148) (st' := [.ref 114, .ref 114]) rfl rfl ?_
                refine wq_gi (idx := 85) (pc' := 151) rfl rfl ho_M rfl rfl ?_
                refine wq_if (p := dz_c (Z21 114 24 0) ≠ 0) (tt := 161) (pc' := 154) rfl rfl (cz_ne rfl) rfl (fun c28 => ?_) (fun c28 => ?_)
                · replace H := dz_it c28 H
                  refine wp_s (i := .aload_n 0) (n := 1) (pc' := 162) (st' := [.ref 114, .ref 114]) rfl rfl ?_
                  refine wq_gi (idx := 137) (pc' := 165) rfl rfl ho_M rfl rfl ?_
                  replace H := dz_sm H
                  exact H
                · replace H := dz_if c28 H
                  refine wp_s (i := .aload_n 0) (n := 1) (pc' := 155) (st' := [.ref 114, .ref 114]) rfl rfl ?_
                  refine wq_gi (idx := 104) (pc' := 158) rfl rfl ho_M rfl rfl ?_
                  refine wp_s (i := .goto 7) (n := 3) (pc' := 165) (st' := [dz_I (Z21 114 29 0), .ref 114]) rfl rfl ?_
                  replace H := dz_sm H
                  exact H
          · skip
            refine wq_if (p := dz_c (q18 114 24 0) ≠ 0) (tt := 133) (pc' := 126) rfl rfl (cz_ne rfl) rfl (fun c29 => ?_) (fun c29 => ?_)
            · replace H := dz_it c29 H
              refine wp_s (i := .iconst 0) (n := 1) (pc' := 134) (st' := [dz_I 0, dz_I (26 + a1), .ref 120]) rfl rfl ?_
              replace H := dz_sm H
              exact H
            · replace H := dz_if c29 H
              refine wp_s (i := .aload_n 0) (n := 1) (pc' := 127) (st' := [.ref 114, dz_I (26 + a1), .ref 120]) rfl rfl ?_
              refine wq_gi (idx := 104) (pc' := 130) rfl rfl ho_M rfl rfl ?_
              refine wp_s (i := .goto 4) (n := 3) (pc' := 134) (st' := [dz_I (q18 114 29 0), dz_I (26 + a1), .ref 120]) rfl rfl ?_
              replace H := dz_sm H
              exact H
        · skip
          refine wq_if (p := dz_c (q14 114 24 0) ≠ 0) (tt := 111) (pc' := 98) rfl rfl (cz_ne rfl) rfl (fun c30 => ?_) (fun c30 => ?_)
          · replace H := dz_it c30 H
            replace H := dz_sm H
            exact H
          · replace H := dz_if c30 H
            refine wp_s (i := .aload_n 0) (n := 1) (pc' := 99) (st' := [.ref 114]) rfl rfl ?_
            refine wq_gi (idx := 104) (pc' := 102) rfl rfl ho_M rfl rfl ?_
            refine wp_s (i := .iload_n 1) (n := 1) (pc' := 103) (st' := [dz_I a1, dz_I (q14 114 29 0)]) rfl rfl ?_
            refine wq_ic (p := dz_c (q14 114 29 0) ≠ dz_c a1) (tt := 111) (pc' := 106) rfl rfl (cq_ne rfl rfl) rfl (fun c31 => ?_) (fun c31 => ?_)
            · replace H := dz_it c31 H
              replace H := dz_sm H
              exact H
            · replace H := dz_if c31 H
              refine wp_s (i := .aload_n 0) (n := 1) (pc' := 107) (st' := [.ref 114]) rfl rfl ?_
              refine wp_s (i := .iconst 3) (n := 1) (pc' := 108) (st' := [dz_I 3, .ref 114]) rfl rfl ?_
              refine wq_cv (Dq := (D + 2)) (r' := mm_r124) (as0 := [dz_I 3]) (rest := []) (ls' := [some (.ref 114), some (dz_I 3)]) (pc' := 111) rfl rfl rfl rfl ho_M rfl rfl rfl ?_
              refine jw_M_fails (X := X) (D := D + 2) 3 q14 (dz_pm (dz_bi H) (fun q32 H => ?_))
              show mm_Wp X (D + 3) mm_r130 111 [some (.ref 114), some (dz_I a1), some (dz_I (q1 - 9))] [] (hz_0 q32) Q
              replace H := dz_sm H
              exact H
    · skip
      refine wq_if (p := ¬(1 ≤ dz_c (q1 - 9) ∧ dz_c (q1 - 9) ≤ 4)) (tt := 79) (pc' := 63) rfl rfl (cd_eq) rfl (fun c33 => ?_) (fun c33 => ?_)
      · replace H := dz_it c33 H
        replace H := dz_sm H
        exact H
      · replace H := dz_if c33 H
        refine wp_s (i := .aload_n 0) (n := 1) (pc' := 64) (st' := [.ref 114]) rfl rfl ?_
        refine wq_gr (idx := 25) (a := 120) (pc' := 67) rfl rfl ho_M rfl rfl ?_
        refine wp_s (i := .bipush 18) (n := 2) (pc' := 69) (st' := [dz_I 18, .ref 120]) rfl rfl ?_
        refine wp_s (i := .iload_n 1) (n := 1) (pc' := 70) (st' := [dz_I a1, dz_I 18, .ref 120]) rfl rfl ?_
        refine wq_2 (i := .iadd) (z := 18 + a1) (pc' := 71) rfl rfl (op_add _ _) rfl ?_
        refine wp_s (i := .aload_n 0) (n := 1) (pc' := 72) (st' := [.ref 114, dz_I (18 + a1), .ref 120]) rfl rfl ?_
        refine wp_s (i := .iconst 1) (n := 1) (pc' := 73) (st' := [dz_I 1, .ref 114, dz_I (18 + a1), .ref 120]) rfl rfl ?_
        refine wp_s (i := .bipush 30) (n := 2) (pc' := 75) (st' := [dz_I 30, dz_I 1, .ref 114, dz_I (18 + a1), .ref 120]) rfl rfl ?_
        refine wq_cv (Dq := (D + 2)) (r' := mm_r128) (as0 := [dz_I 1, dz_I 30]) (rest := [dz_I (18 + a1), .ref 120]) (ls' := [some (.ref 114), some (dz_I 1), some (dz_I 30), none]) (pc' := 78) rfl rfl rfl rfl ho_M rfl rfl rfl ?_
        refine jw_M_number (X := X) (D := D + 0) 1 30 Z7 (dz_pm (dz_bi H) (fun q34 H => ?_))
        show mm_Wp X (D + 3) mm_r130 78 [some (.ref 114), some (dz_I a1), some (dz_I (q1 - 9))] [dz_I q34.1, dz_I (18 + a1), .ref 120] (hz_0 q34.2) Q
        obtain ⟨k35, H⟩ := dz_ck H
        refine wq_is (j' := dz_c (18 + a1)) (x := q34.1) (pc' := 79) rfl ha_M_11 rfl k35.1 k35.2 rfl (fun Z36 eZ36 => ?_)
        replace H := dz_le H Z36 eZ36
        clear eZ36
        replace H := dz_sm H
        exact H
  · replace H := dz_if c2 H
    refine wp_s (i := .aload_n 0) (n := 1) (pc' := 21) (st' := [.ref 114]) rfl rfl ?_
    refine wp_s (i := .iconst 2) (n := 1) (pc' := 22) (st' := [dz_I 2, .ref 114]) rfl rfl ?_
    refine wq_cv (Dq := (D + 2)) (r' := mm_r124) (as0 := [dz_I 2]) (rest := []) (ls' := [some (.ref 114), some (dz_I 2)]) (pc' := 25) rfl rfl rfl rfl ho_M rfl rfl rfl ?_
    refine jw_M_fails (X := X) (D := D + 2) 2 Z (dz_pm (dz_bi H) (fun q37 H => ?_))
    show mm_Wp X (D + 3) mm_r130 25 [some (.ref 114), some (dz_I a1), some (dz_I (q1 - 9))] [] (hz_0 q37) Q
    refine wq_rv rfl rfl ?_
    replace H := dz_sm H
    exact H
end mg_25m09
section mg_25m10
-- 131
def jf_M_readSeconds (a1 : Int) (a2 : Int) (Z : dz_Z) : Option (dz_Z) := dz_lp (fun (s1 : Int × dz_Z) => if dz_c (s1.2 114 24 0) ≠ 0 then (if 0 ≤ dz_c a1 ∧ dz_c a1 < 140 then dz_a (dz_u s1.2 114 11 (dz_c a1) s1.1) fun Z5 => some (Sum.inr Z5) else none) else (if dz_c s1.1 = 0 then (Option.bind (α := dz_Z) (if dz_c (s1.2 114 28 0) ≠ 2 then (some s1.2) else (if dz_c s1.1 ≠ 12 then (some s1.2) else (Option.bind (jf_M_fails 5 s1.2) fun q17 => some q17))) (fun (q10 : dz_Z) => Option.bind (jf_M_number 0 a2 q10) fun q11 => if dz_c (q11.2 114 24 0) ≠ 0 then (some (Sum.inl (s1.1, q11.2))) else (if 0 ≤ dz_c ((a1 + 1) + s1.1) ∧ dz_c ((a1 + 1) + s1.1) < 140 then dz_a (dz_u q11.2 114 11 (dz_c ((a1 + 1) + s1.1)) q11.1) fun Z14 => some (Sum.inl (s1.1 + 1, Z14)) else none))) else (if dz_c (s1.2 114 28 0) ≠ 2 then (if 0 ≤ dz_c a1 ∧ dz_c a1 < 140 then dz_a (dz_u s1.2 114 11 (dz_c a1) s1.1) fun Z20 => some (Sum.inr Z20) else none) else (Option.bind (α := dz_Z) (if dz_c (s1.2 114 28 0) ≠ 2 then (some s1.2) else (if dz_c s1.1 ≠ 12 then (some s1.2) else (Option.bind (jf_M_fails 5 s1.2) fun q31 => some q31))) (fun (q24 : dz_Z) => Option.bind (jf_M_number 0 a2 q24) fun q25 => if dz_c (q25.2 114 24 0) ≠ 0 then (some (Sum.inl (s1.1, q25.2))) else (if 0 ≤ dz_c ((a1 + 1) + s1.1) ∧ dz_c ((a1 + 1) + s1.1) < 140 then dz_a (dz_u q25.2 114 11 (dz_c ((a1 + 1) + s1.1)) q25.1) fun Z28 => some (Sum.inl (s1.1 + 1, Z28)) else none)))))) 5000 (0, Z)
set_option maxRecDepth 20000 in
theorem jw_M_readSeconds {X : Option (List Int32)} {D : Nat} {Q : Option Value → mm_H → Prop} (a1 : Int) (a2 : Int) (Z : dz_Z) (H : dz_p (jf_M_readSeconds a1 a2 Z) (fun q => Q (none) (hz_0 q))) : mm_Wp X (D + 3) mm_r131 0 [some (.ref 114), some (dz_I a1), some (dz_I a2), none, none] [] (hz_0 Z) Q := by
  unfold jf_M_readSeconds at H
  refine wp_s (i := .iconst 0) (n := 1) (pc' := 1) (st' := [dz_I 0]) rfl rfl ?_
  refine wq_st (k := 3) (i := .istore_n 3) (n := 1) (ls' := [some (.ref 114), some (dz_I a1), some (dz_I a2), some (dz_I 0), none]) (pc' := 2) rfl rfl rfl rfl rfl ?_
  refine dz_lpi (P := fun (s1 : Int × dz_Z) => ∀ (u2 : Option Int32), mm_Wp X (D + 3) mm_r131 2 [some (.ref 114), some (dz_I a1), some (dz_I a2), some (dz_I s1.1), Option.map Value.int u2] [] (hz_0 s1.2) Q) (fun s1 H => ?_) 5000 (0, Z) H none
  intro u2
  refine wp_s (i := .aload_n 0) (n := 1) (pc' := 3) (st' := [.ref 114]) rfl rfl ?_
  refine wq_gi (idx := 85) (pc' := 6) rfl rfl ho_M rfl rfl ?_
  refine wq_if (p := dz_c (s1.2 114 24 0) ≠ 0) (tt := 73) (pc' := 9) rfl rfl (cz_ne rfl) rfl (fun c3 => ?_) (fun c3 => ?_)
  · replace H := dz_it c3 H
    refine wp_s (i := .aload_n 0) (n := 1) (pc' := 74) (st' := [.ref 114]) rfl rfl ?_
    refine wq_gr (idx := 25) (a := 120) (pc' := 77) rfl rfl ho_M rfl rfl ?_
    refine wp_s (i := .iload_n 1) (n := 1) (pc' := 78) (st' := [dz_I a1, .ref 120]) rfl rfl ?_
    refine wp_s (i := .iload_n 3) (n := 1) (pc' := 79) (st' := [dz_I s1.1, dz_I a1, .ref 120]) rfl rfl ?_
    obtain ⟨k4, H⟩ := dz_ck H
    refine wq_is (j' := dz_c a1) (x := s1.1) (pc' := 80) rfl ha_M_11 rfl k4.1 k4.2 rfl (fun Z5 eZ5 => ?_)
    replace H := dz_le H Z5 eZ5
    clear eZ5
    refine wq_rv rfl rfl ?_
    replace H := dz_out H
    replace H := dz_sm H
    exact H
  · replace H := dz_if c3 H
    refine wp_s (i := .iload_n 3) (n := 1) (pc' := 10) (st' := [dz_I s1.1]) rfl rfl ?_
    refine wq_if (p := dz_c s1.1 = 0) (tt := 21) (pc' := 13) rfl rfl (cz_eq rfl) rfl (fun c6 => ?_) (fun c6 => ?_)
    · replace H := dz_it c6 H
      refine wp_s (i := .aload_n 0) (n := 1) (pc' := 22) (st' := [.ref 114]) rfl rfl ?_
      refine wq_gi (idx := 94) (pc' := 25) rfl rfl ho_M rfl rfl ?_
      refine wp_s (i := .iconst 2) (n := 1) (pc' := 26) (st' := [dz_I 2, dz_I (s1.2 114 28 0)]) rfl rfl ?_
      refine dz_jn (P := fun (q10 : dz_Z) => mm_Wp X (D + 3) mm_r131 40 [some (.ref 114), some (dz_I a1), some (dz_I a2), some (dz_I s1.1), Option.map Value.int u2] [] (hz_0 q10) Q) (dz_bi H) (fun q10 H => ?_) (fun H => ?_)
      · skip
        refine wp_s (i := .aload_n 0) (n := 1) (pc' := 41) (st' := [.ref 114]) rfl rfl ?_
        refine wp_s (i := .iconst 0) (n := 1) (pc' := 42) (st' := [dz_I 0, .ref 114]) rfl rfl ?_
        refine wp_s (i := .iload_n 2) (n := 1) (pc' := 43) (st' := [dz_I a2, dz_I 0, .ref 114]) rfl rfl ?_
        refine wq_cv (Dq := (D + 2)) (r' := mm_r128) (as0 := [dz_I 0, dz_I a2]) (rest := []) (ls' := [some (.ref 114), some (dz_I 0), some (dz_I a2), none]) (pc' := 46) rfl rfl rfl rfl ho_M rfl rfl rfl ?_
        refine jw_M_number (X := X) (D := D + 0) 0 a2 q10 (dz_pm (dz_bi H) (fun q11 H => ?_))
        show mm_Wp X (D + 3) mm_r131 46 [some (.ref 114), some (dz_I a1), some (dz_I a2), some (dz_I s1.1), Option.map Value.int u2] [dz_I q11.1] (hz_0 q11.2) Q
        refine wq_st (k := 4) (i := .istore 4) (n := 2) (ls' := [some (.ref 114), some (dz_I a1), some (dz_I a2), some (dz_I s1.1), some (dz_I q11.1)]) (pc' := 48) rfl rfl rfl rfl rfl ?_
        refine wp_s (i := .aload_n 0) (n := 1) (pc' := 49) (st' := [.ref 114]) rfl rfl ?_
        refine wq_gi (idx := 85) (pc' := 52) rfl rfl ho_M rfl rfl ?_
        refine wq_if (p := dz_c (q11.2 114 24 0) ≠ 0) (tt := 70) (pc' := 55) rfl rfl (cz_ne rfl) rfl (fun c12 => ?_) (fun c12 => ?_)
        · replace H := dz_it c12 H
          refine wp_s (i := .goto (-68)) (n := 3) (pc' := 2) (st' := []) rfl rfl ?_
          replace H := dz_back H
          exact H (some (Int32.ofInt q11.1))
        · replace H := dz_if c12 H
          refine wp_s (i := .aload_n 0) (n := 1) (pc' := 56) (st' := [.ref 114]) rfl rfl ?_
          refine wq_gr (idx := 25) (a := 120) (pc' := 59) rfl rfl ho_M rfl rfl ?_
          refine wp_s (i := .iload_n 1) (n := 1) (pc' := 60) (st' := [dz_I a1, .ref 120]) rfl rfl ?_
          refine wp_s (i := .iconst 1) (n := 1) (pc' := 61) (st' := [dz_I 1, dz_I a1, .ref 120]) rfl rfl ?_
          refine wq_2 (i := .iadd) (z := a1 + 1) (pc' := 62) rfl rfl (op_add _ _) rfl ?_
          refine wp_s (i := .iload_n 3) (n := 1) (pc' := 63) (st' := [dz_I s1.1, dz_I (a1 + 1), .ref 120]) rfl rfl ?_
          refine wq_2 (i := .iadd) (z := (a1 + 1) + s1.1) (pc' := 64) rfl rfl (op_add _ _) rfl ?_
          refine wp_s (i := .iload 4) (n := 2) (pc' := 66) (st' := [dz_I q11.1, dz_I ((a1 + 1) + s1.1), .ref 120]) rfl rfl ?_
          obtain ⟨k13, H⟩ := dz_ck H
          refine wq_is (j' := dz_c ((a1 + 1) + s1.1)) (x := q11.1) (pc' := 67) rfl ha_M_11 rfl k13.1 k13.2 rfl (fun Z14 eZ14 => ?_)
          replace H := dz_le H Z14 eZ14
          clear eZ14
          refine wq_inc (k := 3) (d := 1) (x := s1.1) (ls' := [some (.ref 114), some (dz_I a1), some (dz_I a2), some (dz_I (s1.1 + 1)), some (dz_I q11.1)]) (pc' := 70) rfl rfl rfl rfl ?_
          refine wp_s (i := .goto (-68)) (n := 3) (pc' := 2) (st' := []) rfl rfl ?_
          replace H := dz_back H
          exact H (some (Int32.ofInt q11.1))
      · skip
        refine wq_ic (p := dz_c (s1.2 114 28 0) ≠ 2) (tt := 40) (pc' := 29) rfl rfl (cq_ne rfl dk_2) rfl (fun c15 => ?_) (fun c15 => ?_)
        · replace H := dz_it c15 H
          replace H := dz_sm H
          exact H
        · replace H := dz_if c15 H
          refine wp_s (i := .iload_n 3) (n := 1) (pc' := 30) (st' := [dz_I s1.1]) rfl rfl ?_
          refine wp_s (i := .bipush 12) (n := 2) (pc' := 32) (st' := [dz_I 12, dz_I s1.1]) rfl rfl ?_
          refine wq_ic (p := dz_c s1.1 ≠ 12) (tt := 40) (pc' := 35) rfl rfl (cq_ne rfl dk_12) rfl (fun c16 => ?_) (fun c16 => ?_)
          · replace H := dz_it c16 H
            replace H := dz_sm H
            exact H
          · replace H := dz_if c16 H
            refine wp_s (i := .aload_n 0) (n := 1) (pc' := 36) (st' := [.ref 114]) rfl rfl ?_
            refine wp_s (i := .iconst 5) (n := 1) (pc' := 37) (st' := [dz_I 5, .ref 114]) rfl rfl ?_
            refine wq_cv (Dq := (D + 2)) (r' := mm_r124) (as0 := [dz_I 5]) (rest := []) (ls' := [some (.ref 114), some (dz_I 5)]) (pc' := 40) rfl rfl rfl rfl ho_M rfl rfl rfl ?_
            refine jw_M_fails (X := X) (D := D + 2) 5 s1.2 (dz_pm (dz_bi H) (fun q17 H => ?_))
            show mm_Wp X (D + 3) mm_r131 40 [some (.ref 114), some (dz_I a1), some (dz_I a2), some (dz_I s1.1), Option.map Value.int u2] [] (hz_0 q17) Q
            replace H := dz_sm H
            exact H
    · replace H := dz_if c6 H
      refine wp_s (i := .aload_n 0) (n := 1) (pc' := 14) (st' := [.ref 114]) rfl rfl ?_
      refine wq_gi (idx := 94) (pc' := 17) rfl rfl ho_M rfl rfl ?_
      refine wp_s (i := .iconst 2) (n := 1) (pc' := 18) (st' := [dz_I 2, dz_I (s1.2 114 28 0)]) rfl rfl ?_
      refine wq_ic (p := dz_c (s1.2 114 28 0) ≠ 2) (tt := 73) (pc' := 21) rfl rfl (cq_ne rfl dk_2) rfl (fun c18 => ?_) (fun c18 => ?_)
      · replace H := dz_it c18 H
        refine wp_s (i := .aload_n 0) (n := 1) (pc' := 74) (st' := [.ref 114]) rfl rfl ?_
        refine wq_gr (idx := 25) (a := 120) (pc' := 77) rfl rfl ho_M rfl rfl ?_
        refine wp_s (i := .iload_n 1) (n := 1) (pc' := 78) (st' := [dz_I a1, .ref 120]) rfl rfl ?_
        refine wp_s (i := .iload_n 3) (n := 1) (pc' := 79) (st' := [dz_I s1.1, dz_I a1, .ref 120]) rfl rfl ?_
        obtain ⟨k19, H⟩ := dz_ck H
        refine wq_is (j' := dz_c a1) (x := s1.1) (pc' := 80) rfl ha_M_11 rfl k19.1 k19.2 rfl (fun Z20 eZ20 => ?_)
        replace H := dz_le H Z20 eZ20
        clear eZ20
        refine wq_rv rfl rfl ?_
        replace H := dz_out H
        replace H := dz_sm H
        exact H
      · replace H := dz_if c18 H
        refine wp_s (i := .aload_n 0) (n := 1) (pc' := 22) (st' := [.ref 114]) rfl rfl ?_
        refine wq_gi (idx := 94) (pc' := 25) rfl rfl ho_M rfl rfl ?_
        refine wp_s (i := .iconst 2) (n := 1) (pc' := 26) (st' := [dz_I 2, dz_I (s1.2 114 28 0)]) rfl rfl ?_
        refine dz_jn (P := fun (q24 : dz_Z) => mm_Wp X (D + 3) mm_r131 40 [some (.ref 114), some (dz_I a1), some (dz_I a2), some (dz_I s1.1), Option.map Value.int u2] [] (hz_0 q24) Q) (dz_bi H) (fun q24 H => ?_) (fun H => ?_)
        · skip
          refine wp_s (i := .aload_n 0) (n := 1) (pc' := 41) (st' := [.ref 114]) rfl rfl ?_
          refine wp_s (i := .iconst 0) (n := 1) (pc' := 42) (st' := [dz_I 0, .ref 114]) rfl rfl ?_
          refine wp_s (i := .iload_n 2) (n := 1) (pc' := 43) (st' := [dz_I a2, dz_I 0, .ref 114]) rfl rfl ?_
          refine wq_cv (Dq := (D + 2)) (r' := mm_r128) (as0 := [dz_I 0, dz_I a2]) (rest := []) (ls' := [some (.ref 114), some (dz_I 0), some (dz_I a2), none]) (pc' := 46) rfl rfl rfl rfl ho_M rfl rfl rfl ?_
          refine jw_M_number (X := X) (D := D + 0) 0 a2 q24 (dz_pm (dz_bi H) (fun q25 H => ?_))
          show mm_Wp X (D + 3) mm_r131 46 [some (.ref 114), some (dz_I a1), some (dz_I a2), some (dz_I s1.1), Option.map Value.int u2] [dz_I q25.1] (hz_0 q25.2) Q
          refine wq_st (k := 4) (i := .istore 4) (n := 2) (ls' := [some (.ref 114), some (dz_I a1), some (dz_I a2), some (dz_I s1.1), some (dz_I q25.1)]) (pc' := 48) rfl rfl rfl rfl rfl ?_
          refine wp_s (i := .aload_n 0) (n := 1) (pc' := 49) (st' := [.ref 114]) rfl rfl ?_
          refine wq_gi (idx := 85) (pc' := 52) rfl rfl ho_M rfl rfl ?_
          refine wq_if (p := dz_c (q25.2 114 24 0) ≠ 0) (tt := 70) (pc' := 55) rfl rfl (cz_ne rfl) rfl (fun c26 => ?_) (fun c26 => ?_)
          · replace H := dz_it c26 H
            refine wp_s (i := .goto (-68)) (n := 3) (pc' := 2) (st' := []) rfl rfl ?_
            replace H := dz_back H
            exact H (some (Int32.ofInt q25.1))
          · replace H := dz_if c26 H
            refine wp_s (i := .aload_n 0) (n := 1) (pc' := 56) (st' := [.ref 114]) rfl rfl ?_
            refine wq_gr (idx := 25) (a := 120) (pc' := 59) rfl rfl ho_M rfl rfl ?_
            refine wp_s (i := .iload_n 1) (n := 1) (pc' := 60) (st' := [dz_I a1, .ref 120]) rfl rfl ?_
            refine wp_s (i := .iconst 1) (n := 1) (pc' := 61) (st' := [dz_I 1, dz_I a1, .ref 120]) rfl rfl ?_
            refine wq_2 (i := .iadd) (z := a1 + 1) (pc' := 62) rfl rfl (op_add _ _) rfl ?_
            refine wp_s (i := .iload_n 3) (n := 1) (pc' := 63) (st' := [dz_I s1.1, dz_I (a1 + 1), .ref 120]) rfl rfl ?_
            refine wq_2 (i := .iadd) (z := (a1 + 1) + s1.1) (pc' := 64) rfl rfl (op_add _ _) rfl ?_
            refine wp_s (i := .iload 4) (n := 2) (pc' := 66) (st' := [dz_I q25.1, dz_I ((a1 + 1) + s1.1), .ref 120]) rfl rfl ?_
            obtain ⟨k27, H⟩ := dz_ck H
            refine wq_is (j' := dz_c ((a1 + 1) + s1.1)) (x := q25.1) (pc' := 67) rfl ha_M_11 rfl k27.1 k27.2 rfl (fun Z28 eZ28 => ?_)
            replace H := dz_le H Z28 eZ28
            clear eZ28
            refine wq_inc (k := 3) (d := 1) (x := s1.1) (ls' := [some (.ref 114), some (dz_I a1), some (dz_I a2), some (dz_I (s1.1 + 1)), some (dz_I q25.1)]) (pc' := 70) rfl rfl rfl rfl ?_
            refine wp_s (i := .goto (-68)) (n := 3) (pc' := 2) (st' := []) rfl rfl ?_
            replace H := dz_back H
            exact H (some (Int32.ofInt q25.1))
        · skip
          refine wq_ic (p := dz_c (s1.2 114 28 0) ≠ 2) (tt := 40) (pc' := 29) rfl rfl (cq_ne rfl dk_2) rfl (fun c29 => ?_) (fun c29 => ?_)
          · replace H := dz_it c29 H
            replace H := dz_sm H
            exact H
          · replace H := dz_if c29 H
            refine wp_s (i := .iload_n 3) (n := 1) (pc' := 30) (st' := [dz_I s1.1]) rfl rfl ?_
            refine wp_s (i := .bipush 12) (n := 2) (pc' := 32) (st' := [dz_I 12, dz_I s1.1]) rfl rfl ?_
            refine wq_ic (p := dz_c s1.1 ≠ 12) (tt := 40) (pc' := 35) rfl rfl (cq_ne rfl dk_12) rfl (fun c30 => ?_) (fun c30 => ?_)
            · replace H := dz_it c30 H
              replace H := dz_sm H
              exact H
            · replace H := dz_if c30 H
              refine wp_s (i := .aload_n 0) (n := 1) (pc' := 36) (st' := [.ref 114]) rfl rfl ?_
              refine wp_s (i := .iconst 5) (n := 1) (pc' := 37) (st' := [dz_I 5, .ref 114]) rfl rfl ?_
              refine wq_cv (Dq := (D + 2)) (r' := mm_r124) (as0 := [dz_I 5]) (rest := []) (ls' := [some (.ref 114), some (dz_I 5)]) (pc' := 40) rfl rfl rfl rfl ho_M rfl rfl rfl ?_
              refine jw_M_fails (X := X) (D := D + 2) 5 s1.2 (dz_pm (dz_bi H) (fun q31 H => ?_))
              show mm_Wp X (D + 3) mm_r131 40 [some (.ref 114), some (dz_I a1), some (dz_I a2), some (dz_I s1.1), Option.map Value.int u2] [] (hz_0 q31) Q
              replace H := dz_sm H
              exact H
-- 132
def jf_M_readThing (a1 : Int) (Z : dz_Z) : Option (dz_Z) := if 0 ≤ dz_c a1 ∧ dz_c a1 < 5 then Option.bind (α := Int) (if dz_c a1 ≠ 0 then (if dz_c a1 ≠ 1 then (if dz_c a1 ≠ 2 then (if dz_c a1 ≠ 3 then (some 4) else (some 3)) else (some 8)) else (some 5)) else (some 4)) (fun (q6 : Int) => if dz_c (Z 114 16 (dz_c a1)) ≠ dz_c q6 then (Option.bind (jf_M_step Z) fun q8 => Option.bind (α := dz_Z) (if dz_c a1 ≠ 0 then (if dz_c a1 ≠ 1 then (if dz_c a1 ≠ 2 then (if dz_c a1 ≠ 3 then (Option.bind (jf_M_number 0 11 q8) fun q50 => if 0 ≤ dz_c (3 * (Z 114 16 (dz_c a1))) ∧ dz_c (3 * (Z 114 16 (dz_c a1))) < 12 then dz_a (dz_u q50.2 114 15 (dz_c (3 * (Z 114 16 (dz_c a1)))) q50.1) fun Z52 => Option.bind (jf_M_number (Z52 114 15 (dz_c (3 * (Z 114 16 (dz_c a1))))) 11 Z52) fun q53 => if 0 ≤ dz_c ((3 * (Z 114 16 (dz_c a1))) + 1) ∧ dz_c ((3 * (Z 114 16 (dz_c a1))) + 1) < 12 then dz_a (dz_u q53.2 114 15 (dz_c ((3 * (Z 114 16 (dz_c a1))) + 1)) q53.1) fun Z55 => Option.bind (jf_M_number 1 99 Z55) fun q56 => if 0 ≤ dz_c ((3 * (Z 114 16 (dz_c a1))) + 2) ∧ dz_c ((3 * (Z 114 16 (dz_c a1))) + 2) < 12 then dz_a (dz_u q56.2 114 15 (dz_c ((3 * (Z 114 16 (dz_c a1))) + 2)) q56.1) fun Z58 => some Z58 else none else none else none) else (Option.bind (jf_M_readSeconds (34 + (13 * (Z 114 16 (dz_c a1)))) 9 q8) fun q59 => some q59)) else (Option.bind (jf_M_number 0 7 q8) fun q60 => if 0 ≤ dz_c (Z 114 16 (dz_c a1)) ∧ dz_c (Z 114 16 (dz_c a1)) < 8 then dz_a (dz_u q60.2 114 14 (dz_c (Z 114 16 (dz_c a1))) q60.1) fun Z62 => Option.bind (jf_M_readCup (Z 114 16 (dz_c a1)) Z62) fun q63 => some q63 else none)) else (Option.bind (jf_M_readWay (Z 114 16 (dz_c a1)) q8) fun q64 => if 0 ≤ dz_c (2 * (Z 114 16 (dz_c a1))) ∧ dz_c (2 * (Z 114 16 (dz_c a1))) < 10 then dz_a (dz_u q64.2 114 13 (dz_c (2 * (Z 114 16 (dz_c a1)))) q64.1) fun Z66 => Option.bind (jf_M_readWay (Z 114 16 (dz_c a1)) Z66) fun q67 => if 0 ≤ dz_c ((2 * (Z 114 16 (dz_c a1))) + 1) ∧ dz_c ((2 * (Z 114 16 (dz_c a1))) + 1) < 10 then dz_a (dz_u q67.2 114 13 (dz_c ((2 * (Z 114 16 (dz_c a1))) + 1)) q67.1) fun Z69 => if 0 ≤ dz_c (0 + (Z 114 16 (dz_c a1))) ∧ dz_c (0 + (Z 114 16 (dz_c a1))) < 140 then dz_a (dz_u Z69 114 11 (dz_c (0 + (Z 114 16 (dz_c a1)))) 2) fun Z71 => some Z71 else none else none else none)) else (Option.bind (jf_M_number 1 9 q8) fun q72 => if 0 ≤ dz_c (2 * (Z 114 16 (dz_c a1))) ∧ dz_c (2 * (Z 114 16 (dz_c a1))) < 8 then dz_a (dz_u q72.2 114 12 (dz_c (2 * (Z 114 16 (dz_c a1)))) q72.1) fun Z74 => Option.bind (jf_M_number 0 4 Z74) fun q75 => if 0 ≤ dz_c ((2 * (Z 114 16 (dz_c a1))) + 1) ∧ dz_c ((2 * (Z 114 16 (dz_c a1))) + 1) < 8 then dz_a (dz_u q75.2 114 12 (dz_c ((2 * (Z 114 16 (dz_c a1))) + 1)) q75.1) fun Z77 => if dz_c (Z77 114 12 (dz_c ((2 * (Z 114 16 (dz_c a1))) + 1))) ≤ dz_c (Z77 114 18 0) then (dz_a (dz_u Z77 114 18 0 (Z77 114 18 0)) fun Z79 => some Z79) else (dz_a (dz_u Z77 114 18 0 (Z77 114 12 (dz_c ((2 * (Z 114 16 (dz_c a1))) + 1)))) fun Z80 => some Z80) else none else none)) (fun (q44 : dz_Z) => dz_a (dz_u q44 114 16 (dz_c a1) ((q44 114 16 (dz_c a1)) + 1)) fun Z45 => some Z45)) else (Option.bind (jf_M_fails 5 Z) fun q81 => some q81)) else none
set_option maxRecDepth 20000 in
theorem jw_M_readThing {X : Option (List Int32)} {D : Nat} {Q : Option Value → mm_H → Prop} (a1 : Int) (Z : dz_Z) (H : dz_p (jf_M_readThing a1 Z) (fun q => Q (none) (hz_0 q))) : mm_Wp X (D + 4) mm_r132 0 [some (.ref 114), some (dz_I a1), none, none] [] (hz_0 Z) Q := by
  unfold jf_M_readThing at H
  refine wp_s (i := .aload_n 0) (n := 1) (pc' := 1) (st' := [.ref 114]) rfl rfl ?_
  refine wq_gr (idx := 40) (a := 125) (pc' := 4) rfl rfl ho_M rfl rfl ?_
  refine wp_s (i := .iload_n 1) (n := 1) (pc' := 5) (st' := [dz_I a1, .ref 125]) rfl rfl ?_
  obtain ⟨k1, H⟩ := dz_ck H
  refine wq_ia (j' := dz_c a1) (pc' := 6) rfl ha_M_16 rfl k1.1 k1.2 rfl ?_
  refine wq_st (k := 2) (i := .istore_n 2) (n := 1) (ls' := [some (.ref 114), some (dz_I a1), some (dz_I (Z 114 16 (dz_c a1))), none]) (pc' := 7) rfl rfl rfl rfl rfl ?_
  refine wp_s (i := .iload_n 1) (n := 1) (pc' := 8) (st' := [dz_I a1]) rfl rfl ?_
  refine dz_jn (P := fun (q6 : Int) => mm_Wp X (D + 4) mm_r132 44 [some (.ref 114), some (dz_I a1), some (dz_I (Z 114 16 (dz_c a1))), none] [dz_I q6] (hz_0 Z) Q) (dz_bi H) (fun q6 H => ?_) (fun H => ?_)
  · skip
    refine wq_st (k := 3) (i := .istore_n 3) (n := 1) (ls' := [some (.ref 114), some (dz_I a1), some (dz_I (Z 114 16 (dz_c a1))), some (dz_I q6)]) (pc' := 45) rfl rfl rfl rfl rfl ?_
    refine wp_s (i := .iload_n 2) (n := 1) (pc' := 46) (st' := [dz_I (Z 114 16 (dz_c a1))]) rfl rfl ?_
    refine wp_s (i := .iload_n 3) (n := 1) (pc' := 47) (st' := [dz_I q6, dz_I (Z 114 16 (dz_c a1))]) rfl rfl ?_
    refine wq_ic (p := dz_c (Z 114 16 (dz_c a1)) ≠ dz_c q6) (tt := 56) (pc' := 50) rfl rfl (cq_ne rfl rfl) rfl (fun c7 => ?_) (fun c7 => ?_)
    · replace H := dz_it c7 H
      refine wp_s (i := .aload_n 0) (n := 1) (pc' := 57) (st' := [.ref 114]) rfl rfl ?_
      refine wq_cv (Dq := (D + 3)) (r' := mm_r126) (as0 := []) (rest := []) (ls' := [some (.ref 114), none]) (pc' := 60) rfl rfl rfl rfl ho_M rfl rfl rfl ?_
      refine jw_M_step (X := X) (D := D + 2) Z (dz_pm (dz_bi H) (fun q8 H => ?_))
      show mm_Wp X (D + 4) mm_r132 60 [some (.ref 114), some (dz_I a1), some (dz_I (Z 114 16 (dz_c a1))), some (dz_I q6)] [] (hz_0 q8) Q
      refine wp_s (i := .iload_n 1) (n := 1) (pc' := 61) (st' := [dz_I a1]) rfl rfl ?_
      refine dz_jn (P := fun (q44 : dz_Z) => mm_Wp X (D + 4) mm_r132 284 [some (.ref 114), some (dz_I a1), some (dz_I (Z 114 16 (dz_c a1))), some (dz_I q6)] [] (hz_0 q44) Q) (dz_bi H) (fun q44 H => ?_) (fun H => ?_)
      · skip
        refine wp_s (i := .aload_n 0) (n := 1) (pc' := 285) (st' := [.ref 114]) rfl rfl ?_
        refine wq_gr (idx := 40) (a := 125) (pc' := 288) rfl rfl ho_M rfl rfl ?_
        refine wp_s (i := .iload_n 1) (n := 1) (pc' := 289) (st' := [dz_I a1, .ref 125]) rfl rfl ?_
        refine wp_s (i := .dup2) (n := 1) (pc' := 290) (st' := [dz_I a1, .ref 125, dz_I a1, .ref 125]) rfl rfl ?_
        refine wq_ia (j' := dz_c a1) (pc' := 291) rfl ha_M_16 rfl k1.1 k1.2 rfl ?_
        refine wp_s (i := .iconst 1) (n := 1) (pc' := 292) (st' := [dz_I 1, dz_I (q44 114 16 (dz_c a1)), dz_I a1, .ref 125]) rfl rfl ?_
        refine wq_2 (i := .iadd) (z := (q44 114 16 (dz_c a1)) + 1) (pc' := 293) rfl rfl (op_add _ _) rfl ?_
        refine wq_is (j' := dz_c a1) (x := (q44 114 16 (dz_c a1)) + 1) (pc' := 294) rfl ha_M_16 rfl k1.1 k1.2 rfl (fun Z45 eZ45 => ?_)
        replace H := dz_le H Z45 eZ45
        clear eZ45
        refine wq_rv rfl rfl ?_
        replace H := dz_sm H
        exact H
      · skip
        refine wq_if (p := dz_c a1 ≠ 0) (tt := 136) (pc' := 64) rfl rfl (cz_ne rfl) rfl (fun c46 => ?_) (fun c46 => ?_)
        · replace H := dz_it c46 H
          refine wp_s (i := .iload_n 1) (n := 1) (pc' := 137) (st' := [dz_I a1]) rfl rfl ?_
          refine wp_s (i := .iconst 1) (n := 1) (pc' := 138) (st' := [dz_I 1, dz_I a1]) rfl rfl ?_
          refine wq_ic (p := dz_c a1 ≠ 1) (tt := 181) (pc' := 141) rfl rfl (cq_ne rfl dk_1) rfl (fun c47 => ?_) (fun c47 => ?_)
          · replace H := dz_it c47 H
            refine wp_s (i := .iload_n 1) (n := 1) (pc' := 182) (st' := [dz_I a1]) rfl rfl ?_
            refine wp_s (i := .iconst 2) (n := 1) (pc' := 183) (st' := [dz_I 2, dz_I a1]) rfl rfl ?_
            refine wq_ic (p := dz_c a1 ≠ 2) (tt := 207) (pc' := 186) rfl rfl (cq_ne rfl dk_2) rfl (fun c48 => ?_) (fun c48 => ?_)
            · replace H := dz_it c48 H
              refine wp_s (i := .iload_n 1) (n := 1) (pc' := 208) (st' := [dz_I a1]) rfl rfl ?_
              refine wp_s (i := .iconst 3) (n := 1) (pc' := 209) (st' := [dz_I 3, dz_I a1]) rfl rfl ?_
              refine wq_ic (p := dz_c a1 ≠ 3) (tt := 228) (pc' := 212) rfl rfl (cq_ne rfl dk_3) rfl (fun c49 => ?_) (fun c49 => ?_)
              · replace H := dz_it c49 H
                refine wp_s (i := .aload_n 0) (n := 1) (pc' := 229) (st' := [.ref 114]) rfl rfl ?_
                refine wq_gr (idx := 37) (a := 124) (pc' := 232) rfl rfl ho_M rfl rfl ?_
                refine wp_s (i := .iconst 3) (n := 1) (pc' := 233) (st' := [dz_I 3, .ref 124]) rfl rfl ?_
                refine wp_s (i := .iload_n 2) (n := 1) (pc' := 234) (st' := [dz_I (Z 114 16 (dz_c a1)), dz_I 3, .ref 124]) rfl rfl ?_
                refine wq_2 (i := .imul) (z := 3 * (Z 114 16 (dz_c a1))) (pc' := 235) rfl rfl (op_mul _ _) rfl ?_
                refine wp_s (i := .aload_n 0) (n := 1) (pc' := 236) (st' := [.ref 114, dz_I (3 * (Z 114 16 (dz_c a1))), .ref 124]) rfl rfl ?_
                refine wp_s (i := .iconst 0) (n := 1) (pc' := 237) (st' := [dz_I 0, .ref 114, dz_I (3 * (Z 114 16 (dz_c a1))), .ref 124]) rfl rfl ?_
                refine wp_s (i := .bipush 11) (n := 2) (pc' := 239) (st' := [dz_I 11, dz_I 0, .ref 114, dz_I (3 * (Z 114 16 (dz_c a1))), .ref 124]) rfl rfl ?_
                refine wq_cv (Dq := (D + 3)) (r' := mm_r128) (as0 := [dz_I 0, dz_I 11]) (rest := [dz_I (3 * (Z 114 16 (dz_c a1))), .ref 124]) (ls' := [some (.ref 114), some (dz_I 0), some (dz_I 11), none]) (pc' := 242) rfl rfl rfl rfl ho_M rfl rfl rfl ?_
                refine jw_M_number (X := X) (D := D + 1) 0 11 q8 (dz_pm (dz_bi H) (fun q50 H => ?_))
                show mm_Wp X (D + 4) mm_r132 242 [some (.ref 114), some (dz_I a1), some (dz_I (Z 114 16 (dz_c a1))), some (dz_I q6)] [dz_I q50.1, dz_I (3 * (Z 114 16 (dz_c a1))), .ref 124] (hz_0 q50.2) Q
                obtain ⟨k51, H⟩ := dz_ck H
                refine wq_is (j' := dz_c (3 * (Z 114 16 (dz_c a1)))) (x := q50.1) (pc' := 243) rfl ha_M_15 rfl k51.1 k51.2 rfl (fun Z52 eZ52 => ?_)
                replace H := dz_le H Z52 eZ52
                clear eZ52
                refine wp_s (i := .aload_n 0) (n := 1) (pc' := 244) (st' := [.ref 114]) rfl rfl ?_
                refine wq_gr (idx := 37) (a := 124) (pc' := 247) rfl rfl ho_M rfl rfl ?_
                refine wp_s (i := .iconst 3) (n := 1) (pc' := 248) (st' := [dz_I 3, .ref 124]) rfl rfl ?_
                refine wp_s (i := .iload_n 2) (n := 1) (pc' := 249) (st' := [dz_I (Z 114 16 (dz_c a1)), dz_I 3, .ref 124]) rfl rfl ?_
                refine wq_2 (i := .imul) (z := 3 * (Z 114 16 (dz_c a1))) (pc' := 250) rfl rfl (op_mul _ _) rfl ?_
                refine wp_s (i := .iconst 1) (n := 1) (pc' := 251) (st' := [dz_I 1, dz_I (3 * (Z 114 16 (dz_c a1))), .ref 124]) rfl rfl ?_
                refine wq_2 (i := .iadd) (z := (3 * (Z 114 16 (dz_c a1))) + 1) (pc' := 252) rfl rfl (op_add _ _) rfl ?_
                refine wp_s (i := .aload_n 0) (n := 1) (pc' := 253) (st' := [.ref 114, dz_I ((3 * (Z 114 16 (dz_c a1))) + 1), .ref 124]) rfl rfl ?_
                refine wp_s (i := .aload_n 0) (n := 1) (pc' := 254) (st' := [.ref 114, .ref 114, dz_I ((3 * (Z 114 16 (dz_c a1))) + 1), .ref 124]) rfl rfl ?_
                refine wq_gr (idx := 37) (a := 124) (pc' := 257) rfl rfl ho_M rfl rfl ?_
                refine wp_s (i := .iconst 3) (n := 1) (pc' := 258) (st' := [dz_I 3, .ref 124, .ref 114, dz_I ((3 * (Z 114 16 (dz_c a1))) + 1), .ref 124]) rfl rfl ?_
                refine wp_s (i := .iload_n 2) (n := 1) (pc' := 259) (st' := [dz_I (Z 114 16 (dz_c a1)), dz_I 3, .ref 124, .ref 114, dz_I ((3 * (Z 114 16 (dz_c a1))) + 1), .ref 124]) rfl rfl ?_
                refine wq_2 (i := .imul) (z := 3 * (Z 114 16 (dz_c a1))) (pc' := 260) rfl rfl (op_mul _ _) rfl ?_
                refine wq_ia (j' := dz_c (3 * (Z 114 16 (dz_c a1)))) (pc' := 261) rfl ha_M_15 rfl k51.1 k51.2 rfl ?_
                refine wp_s (i := .bipush 11) (n := 2) (pc' := 263) (st' := [dz_I 11, dz_I (Z52 114 15 (dz_c (3 * (Z 114 16 (dz_c a1))))), .ref 114, dz_I ((3 * (Z 114 16 (dz_c a1))) + 1), .ref 124]) rfl rfl ?_
                refine wq_cv (Dq := (D + 3)) (r' := mm_r128) (as0 := [dz_I (Z52 114 15 (dz_c (3 * (Z 114 16 (dz_c a1))))), dz_I 11]) (rest := [dz_I ((3 * (Z 114 16 (dz_c a1))) + 1), .ref 124]) (ls' := [some (.ref 114), some (dz_I (Z52 114 15 (dz_c (3 * (Z 114 16 (dz_c a1)))))), some (dz_I 11), none]) (pc' := 266) rfl rfl rfl rfl ho_M rfl rfl rfl ?_
                refine jw_M_number (X := X) (D := D + 1) (Z52 114 15 (dz_c (3 * (Z 114 16 (dz_c a1))))) 11 Z52 (dz_pm (dz_bi H) (fun q53 H => ?_))
                show mm_Wp X (D + 4) mm_r132 266 [some (.ref 114), some (dz_I a1), some (dz_I (Z 114 16 (dz_c a1))), some (dz_I q6)] [dz_I q53.1, dz_I ((3 * (Z 114 16 (dz_c a1))) + 1), .ref 124] (hz_0 q53.2) Q
                obtain ⟨k54, H⟩ := dz_ck H
                refine wq_is (j' := dz_c ((3 * (Z 114 16 (dz_c a1))) + 1)) (x := q53.1) (pc' := 267) rfl ha_M_15 rfl k54.1 k54.2 rfl (fun Z55 eZ55 => ?_)
                replace H := dz_le H Z55 eZ55
                clear eZ55
                refine wp_s (i := .aload_n 0) (n := 1) (pc' := 268) (st' := [.ref 114]) rfl rfl ?_
                refine wq_gr (idx := 37) (a := 124) (pc' := 271) rfl rfl ho_M rfl rfl ?_
                refine wp_s (i := .iconst 3) (n := 1) (pc' := 272) (st' := [dz_I 3, .ref 124]) rfl rfl ?_
                refine wp_s (i := .iload_n 2) (n := 1) (pc' := 273) (st' := [dz_I (Z 114 16 (dz_c a1)), dz_I 3, .ref 124]) rfl rfl ?_
                refine wq_2 (i := .imul) (z := 3 * (Z 114 16 (dz_c a1))) (pc' := 274) rfl rfl (op_mul _ _) rfl ?_
                refine wp_s (i := .iconst 2) (n := 1) (pc' := 275) (st' := [dz_I 2, dz_I (3 * (Z 114 16 (dz_c a1))), .ref 124]) rfl rfl ?_
                refine wq_2 (i := .iadd) (z := (3 * (Z 114 16 (dz_c a1))) + 2) (pc' := 276) rfl rfl (op_add _ _) rfl ?_
                refine wp_s (i := .aload_n 0) (n := 1) (pc' := 277) (st' := [.ref 114, dz_I ((3 * (Z 114 16 (dz_c a1))) + 2), .ref 124]) rfl rfl ?_
                refine wp_s (i := .iconst 1) (n := 1) (pc' := 278) (st' := [dz_I 1, .ref 114, dz_I ((3 * (Z 114 16 (dz_c a1))) + 2), .ref 124]) rfl rfl ?_
                refine wp_s (i := .bipush 99) (n := 2) (pc' := 280) (st' := [dz_I 99, dz_I 1, .ref 114, dz_I ((3 * (Z 114 16 (dz_c a1))) + 2), .ref 124]) rfl rfl ?_
                refine wq_cv (Dq := (D + 3)) (r' := mm_r128) (as0 := [dz_I 1, dz_I 99]) (rest := [dz_I ((3 * (Z 114 16 (dz_c a1))) + 2), .ref 124]) (ls' := [some (.ref 114), some (dz_I 1), some (dz_I 99), none]) (pc' := 283) rfl rfl rfl rfl ho_M rfl rfl rfl ?_
                refine jw_M_number (X := X) (D := D + 1) 1 99 Z55 (dz_pm (dz_bi H) (fun q56 H => ?_))
                show mm_Wp X (D + 4) mm_r132 283 [some (.ref 114), some (dz_I a1), some (dz_I (Z 114 16 (dz_c a1))), some (dz_I q6)] [dz_I q56.1, dz_I ((3 * (Z 114 16 (dz_c a1))) + 2), .ref 124] (hz_0 q56.2) Q
                obtain ⟨k57, H⟩ := dz_ck H
                refine wq_is (j' := dz_c ((3 * (Z 114 16 (dz_c a1))) + 2)) (x := q56.1) (pc' := 284) rfl ha_M_15 rfl k57.1 k57.2 rfl (fun Z58 eZ58 => ?_)
                replace H := dz_le H Z58 eZ58
                clear eZ58
                replace H := dz_sm H
                exact H
              · replace H := dz_if c49 H
                refine wp_s (i := .aload_n 0) (n := 1) (pc' := 213) (st' := [.ref 114]) rfl rfl ?_
                refine wp_s (i := .bipush 34) (n := 2) (pc' := 215) (st' := [dz_I 34, .ref 114]) rfl rfl ?_
                refine wp_s (i := .bipush 13) (n := 2) (pc' := 217) (st' := [dz_I 13, dz_I 34, .ref 114]) rfl rfl ?_
                refine wp_s (i := .iload_n 2) (n := 1) (pc' := 218) (st' := [dz_I (Z 114 16 (dz_c a1)), dz_I 13, dz_I 34, .ref 114]) rfl rfl ?_
                refine wq_2 (i := .imul) (z := 13 * (Z 114 16 (dz_c a1))) (pc' := 219) rfl rfl (op_mul _ _) rfl ?_
                refine wq_2 (i := .iadd) (z := 34 + (13 * (Z 114 16 (dz_c a1)))) (pc' := 220) rfl rfl (op_add _ _) rfl ?_
                refine wp_s (i := .bipush 9) (n := 2) (pc' := 222) (st' := [dz_I 9, dz_I (34 + (13 * (Z 114 16 (dz_c a1)))), .ref 114]) rfl rfl ?_
                refine wq_cv (Dq := (D + 3)) (r' := mm_r131) (as0 := [dz_I (34 + (13 * (Z 114 16 (dz_c a1)))), dz_I 9]) (rest := []) (ls' := [some (.ref 114), some (dz_I (34 + (13 * (Z 114 16 (dz_c a1))))), some (dz_I 9), none, none]) (pc' := 225) rfl rfl rfl rfl ho_M rfl rfl rfl ?_
                refine jw_M_readSeconds (X := X) (D := D + 0) (34 + (13 * (Z 114 16 (dz_c a1)))) 9 q8 (dz_pm (dz_bi H) (fun q59 H => ?_))
                show mm_Wp X (D + 4) mm_r132 225 [some (.ref 114), some (dz_I a1), some (dz_I (Z 114 16 (dz_c a1))), some (dz_I q6)] [] (hz_0 q59) Q
                refine wp_s (i := .goto 59) (n := 3) (pc' := 284) (st' := []) rfl rfl ?_
                replace H := dz_sm H
                exact H
            · replace H := dz_if c48 H
              refine wp_s (i := .aload_n 0) (n := 1) (pc' := 187) (st' := [.ref 114]) rfl rfl ?_
              refine wq_gr (idx := 34) (a := 123) (pc' := 190) rfl rfl ho_M rfl rfl ?_
              refine wp_s (i := .iload_n 2) (n := 1) (pc' := 191) (st' := [dz_I (Z 114 16 (dz_c a1)), .ref 123]) rfl rfl ?_
              refine wp_s (i := .aload_n 0) (n := 1) (pc' := 192) (st' := [.ref 114, dz_I (Z 114 16 (dz_c a1)), .ref 123]) rfl rfl ?_
              refine wp_s (i := .iconst 0) (n := 1) (pc' := 193) (st' := [dz_I 0, .ref 114, dz_I (Z 114 16 (dz_c a1)), .ref 123]) rfl rfl ?_
              refine wp_s (i := .bipush 7) (n := 2) (pc' := 195) (st' := [dz_I 7, dz_I 0, .ref 114, dz_I (Z 114 16 (dz_c a1)), .ref 123]) rfl rfl ?_
              refine wq_cv (Dq := (D + 3)) (r' := mm_r128) (as0 := [dz_I 0, dz_I 7]) (rest := [dz_I (Z 114 16 (dz_c a1)), .ref 123]) (ls' := [some (.ref 114), some (dz_I 0), some (dz_I 7), none]) (pc' := 198) rfl rfl rfl rfl ho_M rfl rfl rfl ?_
              refine jw_M_number (X := X) (D := D + 1) 0 7 q8 (dz_pm (dz_bi H) (fun q60 H => ?_))
              show mm_Wp X (D + 4) mm_r132 198 [some (.ref 114), some (dz_I a1), some (dz_I (Z 114 16 (dz_c a1))), some (dz_I q6)] [dz_I q60.1, dz_I (Z 114 16 (dz_c a1)), .ref 123] (hz_0 q60.2) Q
              obtain ⟨k61, H⟩ := dz_ck H
              refine wq_is (j' := dz_c (Z 114 16 (dz_c a1))) (x := q60.1) (pc' := 199) rfl ha_M_14 rfl k61.1 k61.2 rfl (fun Z62 eZ62 => ?_)
              replace H := dz_le H Z62 eZ62
              clear eZ62
              refine wp_s (i := .aload_n 0) (n := 1) (pc' := 200) (st' := [.ref 114]) rfl rfl ?_
              refine wp_s (i := .iload_n 2) (n := 1) (pc' := 201) (st' := [dz_I (Z 114 16 (dz_c a1)), .ref 114]) rfl rfl ?_
              refine wq_cv (Dq := (D + 3)) (r' := mm_r130) (as0 := [dz_I (Z 114 16 (dz_c a1))]) (rest := []) (ls' := [some (.ref 114), some (dz_I (Z 114 16 (dz_c a1))), none]) (pc' := 204) rfl rfl rfl rfl ho_M rfl rfl rfl ?_
              refine jw_M_readCup (X := X) (D := D + 0) (Z 114 16 (dz_c a1)) Z62 (dz_pm (dz_bi H) (fun q63 H => ?_))
              show mm_Wp X (D + 4) mm_r132 204 [some (.ref 114), some (dz_I a1), some (dz_I (Z 114 16 (dz_c a1))), some (dz_I q6)] [] (hz_0 q63) Q
              refine wp_s (i := .goto 80) (n := 3) (pc' := 284) (st' := []) rfl rfl ?_
              replace H := dz_sm H
              exact H
          · replace H := dz_if c47 H
            refine wp_s (i := .aload_n 0) (n := 1) (pc' := 142) (st' := [.ref 114]) rfl rfl ?_
            refine wq_gr (idx := 31) (a := 122) (pc' := 145) rfl rfl ho_M rfl rfl ?_
            refine wp_s (i := .iconst 2) (n := 1) (pc' := 146) (st' := [dz_I 2, .ref 122]) rfl rfl ?_
            refine wp_s (i := .iload_n 2) (n := 1) (pc' := 147) (st' := [dz_I (Z 114 16 (dz_c a1)), dz_I 2, .ref 122]) rfl rfl ?_
            refine wq_2 (i := .imul) (z := 2 * (Z 114 16 (dz_c a1))) (pc' := 148) rfl rfl (op_mul _ _) rfl ?_
            refine wp_s (i := .aload_n 0) (n := 1) (pc' := 149) (st' := [.ref 114, dz_I (2 * (Z 114 16 (dz_c a1))), .ref 122]) rfl rfl ?_
            refine wp_s (i := .iload_n 2) (n := 1) (pc' := 150) (st' := [dz_I (Z 114 16 (dz_c a1)), .ref 114, dz_I (2 * (Z 114 16 (dz_c a1))), .ref 122]) rfl rfl ?_
            refine wq_cv (Dq := (D + 3)) (r' := mm_r129) (as0 := [dz_I (Z 114 16 (dz_c a1))]) (rest := [dz_I (2 * (Z 114 16 (dz_c a1))), .ref 122]) (ls' := [some (.ref 114), some (dz_I (Z 114 16 (dz_c a1))), none, none]) (pc' := 153) rfl rfl rfl rfl ho_M rfl rfl rfl ?_
            refine jw_M_readWay (X := X) (D := D + 0) (Z 114 16 (dz_c a1)) q8 (dz_pm (dz_bi H) (fun q64 H => ?_))
            show mm_Wp X (D + 4) mm_r132 153 [some (.ref 114), some (dz_I a1), some (dz_I (Z 114 16 (dz_c a1))), some (dz_I q6)] [dz_I q64.1, dz_I (2 * (Z 114 16 (dz_c a1))), .ref 122] (hz_0 q64.2) Q
            obtain ⟨k65, H⟩ := dz_ck H
            refine wq_is (j' := dz_c (2 * (Z 114 16 (dz_c a1)))) (x := q64.1) (pc' := 154) rfl ha_M_13 rfl k65.1 k65.2 rfl (fun Z66 eZ66 => ?_)
            replace H := dz_le H Z66 eZ66
            clear eZ66
            refine wp_s (i := .aload_n 0) (n := 1) (pc' := 155) (st' := [.ref 114]) rfl rfl ?_
            refine wq_gr (idx := 31) (a := 122) (pc' := 158) rfl rfl ho_M rfl rfl ?_
            refine wp_s (i := .iconst 2) (n := 1) (pc' := 159) (st' := [dz_I 2, .ref 122]) rfl rfl ?_
            refine wp_s (i := .iload_n 2) (n := 1) (pc' := 160) (st' := [dz_I (Z 114 16 (dz_c a1)), dz_I 2, .ref 122]) rfl rfl ?_
            refine wq_2 (i := .imul) (z := 2 * (Z 114 16 (dz_c a1))) (pc' := 161) rfl rfl (op_mul _ _) rfl ?_
            refine wp_s (i := .iconst 1) (n := 1) (pc' := 162) (st' := [dz_I 1, dz_I (2 * (Z 114 16 (dz_c a1))), .ref 122]) rfl rfl ?_
            refine wq_2 (i := .iadd) (z := (2 * (Z 114 16 (dz_c a1))) + 1) (pc' := 163) rfl rfl (op_add _ _) rfl ?_
            refine wp_s (i := .aload_n 0) (n := 1) (pc' := 164) (st' := [.ref 114, dz_I ((2 * (Z 114 16 (dz_c a1))) + 1), .ref 122]) rfl rfl ?_
            refine wp_s (i := .iload_n 2) (n := 1) (pc' := 165) (st' := [dz_I (Z 114 16 (dz_c a1)), .ref 114, dz_I ((2 * (Z 114 16 (dz_c a1))) + 1), .ref 122]) rfl rfl ?_
            refine wq_cv (Dq := (D + 3)) (r' := mm_r129) (as0 := [dz_I (Z 114 16 (dz_c a1))]) (rest := [dz_I ((2 * (Z 114 16 (dz_c a1))) + 1), .ref 122]) (ls' := [some (.ref 114), some (dz_I (Z 114 16 (dz_c a1))), none, none]) (pc' := 168) rfl rfl rfl rfl ho_M rfl rfl rfl ?_
            refine jw_M_readWay (X := X) (D := D + 0) (Z 114 16 (dz_c a1)) Z66 (dz_pm (dz_bi H) (fun q67 H => ?_))
            show mm_Wp X (D + 4) mm_r132 168 [some (.ref 114), some (dz_I a1), some (dz_I (Z 114 16 (dz_c a1))), some (dz_I q6)] [dz_I q67.1, dz_I ((2 * (Z 114 16 (dz_c a1))) + 1), .ref 122] (hz_0 q67.2) Q
            obtain ⟨k68, H⟩ := dz_ck H
            refine wq_is (j' := dz_c ((2 * (Z 114 16 (dz_c a1))) + 1)) (x := q67.1) (pc' := 169) rfl ha_M_13 rfl k68.1 k68.2 rfl (fun Z69 eZ69 => ?_)
            replace H := dz_le H Z69 eZ69
            clear eZ69
            refine wp_s (i := .aload_n 0) (n := 1) (pc' := 170) (st' := [.ref 114]) rfl rfl ?_
            refine wq_gr (idx := 25) (a := 120) (pc' := 173) rfl rfl ho_M rfl rfl ?_
            refine wp_s (i := .iconst 0) (n := 1) (pc' := 174) (st' := [dz_I 0, .ref 120]) rfl rfl ?_
            refine wp_s (i := .iload_n 2) (n := 1) (pc' := 175) (st' := [dz_I (Z 114 16 (dz_c a1)), dz_I 0, .ref 120]) rfl rfl ?_
            refine wq_2 (i := .iadd) (z := 0 + (Z 114 16 (dz_c a1))) (pc' := 176) rfl rfl (op_add _ _) rfl ?_
            refine wp_s (i := .iconst 2) (n := 1) (pc' := 177) (st' := [dz_I 2, dz_I (0 + (Z 114 16 (dz_c a1))), .ref 120]) rfl rfl ?_
            obtain ⟨k70, H⟩ := dz_ck H
            refine wq_is (j' := dz_c (0 + (Z 114 16 (dz_c a1)))) (x := 2) (pc' := 178) rfl ha_M_11 rfl k70.1 k70.2 rfl (fun Z71 eZ71 => ?_)
            replace H := dz_le H Z71 eZ71
            clear eZ71
            refine wp_s (i := .goto 106) (n := 3) (pc' := 284) (st' := []) rfl rfl ?_
            replace H := dz_sm H
            exact H
        · replace H := dz_if c46 H
          refine wp_s (i := .aload_n 0) (n := 1) (pc' := 65) (st' := [.ref 114]) rfl rfl ?_
          refine wq_gr (idx := 28) (a := 121) (pc' := 68) rfl rfl ho_M rfl rfl ?_
          refine wp_s (i := .iconst 2) (n := 1) (pc' := 69) (st' := [dz_I 2, .ref 121]) rfl rfl ?_
          refine wp_s (i := .iload_n 2) (n := 1) (pc' := 70) (st' := [dz_I (Z 114 16 (dz_c a1)), dz_I 2, .ref 121]) rfl rfl ?_
          refine wq_2 (i := .imul) (z := 2 * (Z 114 16 (dz_c a1))) (pc' := 71) rfl rfl (op_mul _ _) rfl ?_
          refine wp_s (i := .aload_n 0) (n := 1) (pc' := 72) (st' := [.ref 114, dz_I (2 * (Z 114 16 (dz_c a1))), .ref 121]) rfl rfl ?_
          refine wp_s (i := .iconst 1) (n := 1) (pc' := 73) (st' := [dz_I 1, .ref 114, dz_I (2 * (Z 114 16 (dz_c a1))), .ref 121]) rfl rfl ?_
          refine wp_s (i := .bipush 9) (n := 2) (pc' := 75) (st' := [dz_I 9, dz_I 1, .ref 114, dz_I (2 * (Z 114 16 (dz_c a1))), .ref 121]) rfl rfl ?_
          refine wq_cv (Dq := (D + 3)) (r' := mm_r128) (as0 := [dz_I 1, dz_I 9]) (rest := [dz_I (2 * (Z 114 16 (dz_c a1))), .ref 121]) (ls' := [some (.ref 114), some (dz_I 1), some (dz_I 9), none]) (pc' := 78) rfl rfl rfl rfl ho_M rfl rfl rfl ?_
          refine jw_M_number (X := X) (D := D + 1) 1 9 q8 (dz_pm (dz_bi H) (fun q72 H => ?_))
          show mm_Wp X (D + 4) mm_r132 78 [some (.ref 114), some (dz_I a1), some (dz_I (Z 114 16 (dz_c a1))), some (dz_I q6)] [dz_I q72.1, dz_I (2 * (Z 114 16 (dz_c a1))), .ref 121] (hz_0 q72.2) Q
          obtain ⟨k73, H⟩ := dz_ck H
          refine wq_is (j' := dz_c (2 * (Z 114 16 (dz_c a1)))) (x := q72.1) (pc' := 79) rfl ha_M_12 rfl k73.1 k73.2 rfl (fun Z74 eZ74 => ?_)
          replace H := dz_le H Z74 eZ74
          clear eZ74
          refine wp_s (i := .aload_n 0) (n := 1) (pc' := 80) (st' := [.ref 114]) rfl rfl ?_
          refine wq_gr (idx := 28) (a := 121) (pc' := 83) rfl rfl ho_M rfl rfl ?_
          refine wp_s (i := .iconst 2) (n := 1) (pc' := 84) (st' := [dz_I 2, .ref 121]) rfl rfl ?_
          refine wp_s (i := .iload_n 2) (n := 1) (pc' := 85) (st' := [dz_I (Z 114 16 (dz_c a1)), dz_I 2, .ref 121]) rfl rfl ?_
          refine wq_2 (i := .imul) (z := 2 * (Z 114 16 (dz_c a1))) (pc' := 86) rfl rfl (op_mul _ _) rfl ?_
          refine wp_s (i := .iconst 1) (n := 1) (pc' := 87) (st' := [dz_I 1, dz_I (2 * (Z 114 16 (dz_c a1))), .ref 121]) rfl rfl ?_
          refine wq_2 (i := .iadd) (z := (2 * (Z 114 16 (dz_c a1))) + 1) (pc' := 88) rfl rfl (op_add _ _) rfl ?_
          refine wp_s (i := .aload_n 0) (n := 1) (pc' := 89) (st' := [.ref 114, dz_I ((2 * (Z 114 16 (dz_c a1))) + 1), .ref 121]) rfl rfl ?_
          refine wp_s (i := .iconst 0) (n := 1) (pc' := 90) (st' := [dz_I 0, .ref 114, dz_I ((2 * (Z 114 16 (dz_c a1))) + 1), .ref 121]) rfl rfl ?_
          refine wp_s (i := .iconst 4) (n := 1) (pc' := 91) (st' := [dz_I 4, dz_I 0, .ref 114, dz_I ((2 * (Z 114 16 (dz_c a1))) + 1), .ref 121]) rfl rfl ?_
          refine wq_cv (Dq := (D + 3)) (r' := mm_r128) (as0 := [dz_I 0, dz_I 4]) (rest := [dz_I ((2 * (Z 114 16 (dz_c a1))) + 1), .ref 121]) (ls' := [some (.ref 114), some (dz_I 0), some (dz_I 4), none]) (pc' := 94) rfl rfl rfl rfl ho_M rfl rfl rfl ?_
          refine jw_M_number (X := X) (D := D + 1) 0 4 Z74 (dz_pm (dz_bi H) (fun q75 H => ?_))
          show mm_Wp X (D + 4) mm_r132 94 [some (.ref 114), some (dz_I a1), some (dz_I (Z 114 16 (dz_c a1))), some (dz_I q6)] [dz_I q75.1, dz_I ((2 * (Z 114 16 (dz_c a1))) + 1), .ref 121] (hz_0 q75.2) Q
          obtain ⟨k76, H⟩ := dz_ck H
          refine wq_is (j' := dz_c ((2 * (Z 114 16 (dz_c a1))) + 1)) (x := q75.1) (pc' := 95) rfl ha_M_12 rfl k76.1 k76.2 rfl (fun Z77 eZ77 => ?_)
          replace H := dz_le H Z77 eZ77
          clear eZ77
          refine wp_s (i := .aload_n 0) (n := 1) (pc' := 96) (st' := [.ref 114]) rfl rfl ?_
          refine wp_s (i := .aload_n 0) (n := 1) (pc' := 97) (st' := [.ref 114, .ref 114]) rfl rfl ?_
          refine wq_gr (idx := 28) (a := 121) (pc' := 100) rfl rfl ho_M rfl rfl ?_
          refine wp_s (i := .iconst 2) (n := 1) (pc' := 101) (st' := [dz_I 2, .ref 121, .ref 114]) rfl rfl ?_
          refine wp_s (i := .iload_n 2) (n := 1) (pc' := 102) (st' := [dz_I (Z 114 16 (dz_c a1)), dz_I 2, .ref 121, .ref 114]) rfl rfl ?_
          refine wq_2 (i := .imul) (z := 2 * (Z 114 16 (dz_c a1))) (pc' := 103) rfl rfl (op_mul _ _) rfl ?_
          refine wp_s (i := .iconst 1) (n := 1) (pc' := 104) (st' := [dz_I 1, dz_I (2 * (Z 114 16 (dz_c a1))), .ref 121, .ref 114]) rfl rfl ?_
          refine wq_2 (i := .iadd) (z := (2 * (Z 114 16 (dz_c a1))) + 1) (pc' := 105) rfl rfl (op_add _ _) rfl ?_
          refine wq_ia (j' := dz_c ((2 * (Z 114 16 (dz_c a1))) + 1)) (pc' := 106) rfl ha_M_12 rfl k76.1 k76.2 rfl ?_
          refine wp_s (i := .aload_n 0) (n := 1) (pc' := 107) (st' := [.ref 114, dz_I (Z77 114 12 (dz_c ((2 * (Z 114 16 (dz_c a1))) + 1))), .ref 114]) rfl rfl ?_
          refine wq_gi (idx := 130) (pc' := 110) rfl rfl ho_M rfl rfl ?_
          refine wq_ic (p := dz_c (Z77 114 12 (dz_c ((2 * (Z 114 16 (dz_c a1))) + 1))) ≤ dz_c (Z77 114 18 0)) (tt := 126) (pc' := 113) rfl rfl (cq_le rfl rfl) rfl (fun c78 => ?_) (fun c78 => ?_)
          · replace H := dz_it c78 H
            refine wp_s (i := .aload_n 0) (n := 1) (pc' := 127) (st' := [.ref 114, .ref 114]) rfl rfl ?_
            refine wq_gi (idx := 130) (pc' := 130) rfl rfl ho_M rfl rfl ?_
            refine wq_pi (idx := 130) (x := Z77 114 18 0) (pc' := 133) rfl rfl rfl ho_M rfl rfl rfl rfl (fun Z79 eZ79 => ?_)
            replace H := dz_le H Z79 eZ79
            clear eZ79
            refine wp_s (i := .goto 151) (n := 3) (pc' := 284) (st' := []) rfl rfl ?_
            replace H := dz_sm H
            exact H
          · replace H := dz_if c78 H
            refine wp_s (i := .aload_n 0) (n := 1) (pc' := 114) (st' := [.ref 114, .ref 114]) rfl rfl ?_
            refine wq_gr (idx := 28) (a := 121) (pc' := 117) rfl rfl ho_M rfl rfl ?_
            refine wp_s (i := .iconst 2) (n := 1) (pc' := 118) (st' := [dz_I 2, .ref 121, .ref 114]) rfl rfl ?_
            refine wp_s (i := .iload_n 2) (n := 1) (pc' := 119) (st' := [dz_I (Z 114 16 (dz_c a1)), dz_I 2, .ref 121, .ref 114]) rfl rfl ?_
            refine wq_2 (i := .imul) (z := 2 * (Z 114 16 (dz_c a1))) (pc' := 120) rfl rfl (op_mul _ _) rfl ?_
            refine wp_s (i := .iconst 1) (n := 1) (pc' := 121) (st' := [dz_I 1, dz_I (2 * (Z 114 16 (dz_c a1))), .ref 121, .ref 114]) rfl rfl ?_
            refine wq_2 (i := .iadd) (z := (2 * (Z 114 16 (dz_c a1))) + 1) (pc' := 122) rfl rfl (op_add _ _) rfl ?_
            refine wq_ia (j' := dz_c ((2 * (Z 114 16 (dz_c a1))) + 1)) (pc' := 123) rfl ha_M_12 rfl k76.1 k76.2 rfl ?_
            refine wp_s (i := .goto 7) (n := 3) (pc' := 130) (st' := [dz_I (Z77 114 12 (dz_c ((2 * (Z 114 16 (dz_c a1))) + 1))), .ref 114]) rfl rfl ?_
            refine wq_pi (idx := 130) (x := Z77 114 12 (dz_c ((2 * (Z 114 16 (dz_c a1))) + 1))) (pc' := 133) rfl rfl rfl ho_M rfl rfl rfl rfl (fun Z80 eZ80 => ?_)
            replace H := dz_le H Z80 eZ80
            clear eZ80
            refine wp_s (i := .goto 151) (n := 3) (pc' := 284) (st' := []) rfl rfl ?_
            replace H := dz_sm H
            exact H
    · replace H := dz_if c7 H
      refine wp_s (i := .aload_n 0) (n := 1) (pc' := 51) (st' := [.ref 114]) rfl rfl ?_
      refine wp_s (i := .iconst 5) (n := 1) (pc' := 52) (st' := [dz_I 5, .ref 114]) rfl rfl ?_
      refine wq_cv (Dq := (D + 3)) (r' := mm_r124) (as0 := [dz_I 5]) (rest := []) (ls' := [some (.ref 114), some (dz_I 5)]) (pc' := 55) rfl rfl rfl rfl ho_M rfl rfl rfl ?_
      refine jw_M_fails (X := X) (D := D + 3) 5 Z (dz_pm (dz_bi H) (fun q81 H => ?_))
      show mm_Wp X (D + 4) mm_r132 55 [some (.ref 114), some (dz_I a1), some (dz_I (Z 114 16 (dz_c a1))), some (dz_I q6)] [] (hz_0 q81) Q
      refine wq_rv rfl rfl ?_
      replace H := dz_sm H
      exact H
  · skip
    refine wq_if (p := dz_c a1 ≠ 0) (tt := 15) (pc' := 11) rfl rfl (cz_ne rfl) rfl (fun c82 => ?_) (fun c82 => ?_)
    · replace H := dz_it c82 H
      refine wp_s (i := .iload_n 1) (n := 1) (pc' := 16) (st' := [dz_I a1]) rfl rfl ?_
      refine wp_s (i := .iconst 1) (n := 1) (pc' := 17) (st' := [dz_I 1, dz_I a1]) rfl rfl ?_
      refine wq_ic (p := dz_c a1 ≠ 1) (tt := 24) (pc' := 20) rfl rfl (cq_ne rfl dk_1) rfl (fun c83 => ?_) (fun c83 => ?_)
      · replace H := dz_it c83 H
        refine wp_s (i := .iload_n 1) (n := 1) (pc' := 25) (st' := [dz_I a1]) rfl rfl ?_
        refine wp_s (i := .iconst 2) (n := 1) (pc' := 26) (st' := [dz_I 2, dz_I a1]) rfl rfl ?_
        refine wq_ic (p := dz_c a1 ≠ 2) (tt := 34) (pc' := 29) rfl rfl (cq_ne rfl dk_2) rfl (fun c84 => ?_) (fun c84 => ?_)
        · replace H := dz_it c84 H
          refine wp_s (i := .iload_n 1) (n := 1) (pc' := 35) (st' := [dz_I a1]) rfl rfl ?_
          refine wp_s (i := .iconst 3) (n := 1) (pc' := 36) (st' := [dz_I 3, dz_I a1]) rfl rfl ?_
          refine wq_ic (p := dz_c a1 ≠ 3) (tt := 43) (pc' := 39) rfl rfl (cq_ne rfl dk_3) rfl (fun c85 => ?_) (fun c85 => ?_)
          · replace H := dz_it c85 H
            refine wp_s (i := .iconst 4) (n := 1) (pc' := 44) (st' := [dz_I 4]) rfl rfl ?_
            replace H := dz_sm H
            exact H
          · replace H := dz_if c85 H
            refine wp_s (i := .iconst 3) (n := 1) (pc' := 40) (st' := [dz_I 3]) rfl rfl ?_
            refine wp_s (i := .goto 4) (n := 3) (pc' := 44) (st' := [dz_I 3]) rfl rfl ?_
            replace H := dz_sm H
            exact H
        · replace H := dz_if c84 H
          refine wp_s (i := .bipush 8) (n := 2) (pc' := 31) (st' := [dz_I 8]) rfl rfl ?_
          refine wp_s (i := .goto 13) (n := 3) (pc' := 44) (st' := [dz_I 8]) rfl rfl ?_
          replace H := dz_sm H
          exact H
      · replace H := dz_if c83 H
        refine wp_s (i := .iconst 5) (n := 1) (pc' := 21) (st' := [dz_I 5]) rfl rfl ?_
        refine wp_s (i := .goto 23) (n := 3) (pc' := 44) (st' := [dz_I 5]) rfl rfl ?_
        replace H := dz_sm H
        exact H
    · replace H := dz_if c82 H
      refine wp_s (i := .iconst 4) (n := 1) (pc' := 12) (st' := [dz_I 4]) rfl rfl ?_
      refine wp_s (i := .goto 32) (n := 3) (pc' := 44) (st' := [dz_I 4]) rfl rfl ?_
      replace H := dz_sm H
      exact H
-- 133
def jf_M_readLine (Z : dz_Z) : Option (dz_Z) := Option.bind (jf_M_nameHere Z) fun q1 => if 0 ≤ dz_c q1 ∧ dz_c q1 ≤ 6 then (Option.bind (α := dz_Z) (if 4 < dz_c q1 then (Option.bind (α := dz_Z) (if dz_c (dz_an (dz_sr (Z 114 20 0) q1) 1) ≠ 1 then (some Z) else (Option.bind (jf_M_fails 4 Z) fun q36 => some q36)) (fun (q28 : dz_Z) => dz_a (dz_u q28 114 20 0 (dz_or (q28 114 20 0) (dz_sl 1 q1))) fun Z29 => Option.bind (jf_M_step Z29) fun q30 => if dz_c q1 ≠ 5 then (Option.bind (jf_M_number 0 999 q30) fun q32 => dz_a (dz_u q32.2 114 17 0 q32.1) fun Z33 => some Z33) else (Option.bind (jf_M_readSeconds 73 255 q30) fun q34 => some q34))) else (Option.bind (jf_M_readThing q1 Z) fun q37 => some q37)) (fun (q16 : dz_Z) => Option.bind (α := dz_Z) (if dz_c (q16 114 24 0) ≠ 0 then (some q16) else (if dz_c (q16 114 28 0) = 3 then (some q16) else (Option.bind (jf_M_fails 2 q16) fun q24 => some q24))) (fun (q20 : dz_Z) => Option.bind (jf_M_step q20) fun q21 => some q21))) else (Option.bind (jf_M_fails 2 Z) fun q38 => some q38)
set_option maxRecDepth 20000 in
theorem jw_M_readLine {X : Option (List Int32)} {D : Nat} {Q : Option Value → mm_H → Prop} (Z : dz_Z) (H : dz_p (jf_M_readLine Z) (fun q => Q (none) (hz_0 q))) : mm_Wp X (D + 5) mm_r133 0 [some (.ref 114), none] [] (hz_0 Z) Q := by
  unfold jf_M_readLine at H
  refine wp_s (i := .aload_n 0) (n := 1) (pc' := 1) (st' := [.ref 114]) rfl rfl ?_
  refine wq_cv (Dq := (D + 4)) (r' := mm_r125) (as0 := []) (rest := []) (ls' := [some (.ref 114), none, none, none]) (pc' := 4) rfl rfl rfl rfl ho_M rfl rfl rfl ?_
  refine jw_M_nameHere (X := X) (D := D + 3) Z (dz_pm (dz_bi H) (fun q1 H => ?_))
  show mm_Wp X (D + 5) mm_r133 4 [some (.ref 114), none] [dz_I q1] (hz_0 Z) Q
  refine wq_st (k := 1) (i := .istore_n 1) (n := 1) (ls' := [some (.ref 114), some (dz_I q1)]) (pc' := 5) rfl rfl rfl rfl rfl ?_
  refine wp_s (i := .iload_n 1) (n := 1) (pc' := 6) (st' := [dz_I q1]) rfl rfl ?_
  refine wq_3 (i := .i2l) (v' := dz_J (dz_c q1)) (pc' := 7) rfl rfl (oq_i2l' rfl) rfl ?_
  refine wp_s (i := .lconst 0) (n := 1) (pc' := 8) (st' := [dz_J 0, dz_J (dz_c q1)]) rfl rfl ?_
  refine wp_s (i := .ldc2_w 153) (n := 3) (pc' := 11) (st' := [dz_J 6, dz_J 0, dz_J (dz_c q1)]) rfl rfl ?_
  refine wq_cs (Dq := (D + 4)) (r' := mm_r120) (as0 := [dz_J (dz_c q1), dz_J 0, dz_J 6]) (rest := []) (ls' := [some (dz_J (dz_c q1)), none, some (dz_J 0), none, some (dz_J 6), none]) (pc' := 14) rfl rfl (by decide) rfl rfl rfl rfl rfl ?_
  refine jw_in (a' := dz_c q1) (b' := 0) (c' := 6) (dz_lc _) (by decide) (by decide) ?_
  show mm_Wp X (D + 5) mm_r133 14 [some (.ref 114), some (dz_I q1)] [dz_B (decide (0 ≤ dz_c q1 ∧ dz_c q1 ≤ 6))] (hz_0 Z) Q
  refine wq_if (p := 0 ≤ dz_c q1 ∧ dz_c q1 ≤ 6) (tt := 23) (pc' := 17) rfl rfl (cd_ne) rfl (fun c2 => ?_) (fun c2 => ?_)
  · replace H := dz_it c2 H
    refine wp_s (i := .iload_n 1) (n := 1) (pc' := 24) (st' := [dz_I q1]) rfl rfl ?_
    refine wp_s (i := .iconst 4) (n := 1) (pc' := 25) (st' := [dz_I 4, dz_I q1]) rfl rfl ?_
    refine dz_jn (P := fun (q16 : dz_Z) => mm_Wp X (D + 5) mm_r133 98 [some (.ref 114), some (dz_I q1)] [] (hz_0 q16) Q) (dz_bi H) (fun q16 H => ?_) (fun H => ?_)
    · skip
      refine wp_s (i := .aload_n 0) (n := 1) (pc' := 99) (st' := [.ref 114]) rfl rfl ?_
      refine wq_gi (idx := 85) (pc' := 102) rfl rfl ho_M rfl rfl ?_
      refine dz_jn (P := fun (q20 : dz_Z) => mm_Wp X (D + 5) mm_r133 118 [some (.ref 114), some (dz_I q1)] [] (hz_0 q20) Q) (dz_bi H) (fun q20 H => ?_) (fun H => ?_)
      · skip
        refine wp_s (i := .aload_n 0) (n := 1) (pc' := 119) (st' := [.ref 114]) rfl rfl ?_
        refine wq_cv (Dq := (D + 4)) (r' := mm_r126) (as0 := []) (rest := []) (ls' := [some (.ref 114), none]) (pc' := 122) rfl rfl rfl rfl ho_M rfl rfl rfl ?_
        refine jw_M_step (X := X) (D := D + 3) q20 (dz_pm (dz_bi H) (fun q21 H => ?_))
        show mm_Wp X (D + 5) mm_r133 122 [some (.ref 114), some (dz_I q1)] [] (hz_0 q21) Q
        refine wq_rv rfl rfl ?_
        replace H := dz_sm H
        exact H
      · skip
        refine wq_if (p := dz_c (q16 114 24 0) ≠ 0) (tt := 118) (pc' := 105) rfl rfl (cz_ne rfl) rfl (fun c22 => ?_) (fun c22 => ?_)
        · replace H := dz_it c22 H
          replace H := dz_sm H
          exact H
        · replace H := dz_if c22 H
          refine wp_s (i := .aload_n 0) (n := 1) (pc' := 106) (st' := [.ref 114]) rfl rfl ?_
          refine wq_gi (idx := 94) (pc' := 109) rfl rfl ho_M rfl rfl ?_
          refine wp_s (i := .iconst 3) (n := 1) (pc' := 110) (st' := [dz_I 3, dz_I (q16 114 28 0)]) rfl rfl ?_
          refine wq_ic (p := dz_c (q16 114 28 0) = 3) (tt := 118) (pc' := 113) rfl rfl (cq_eq rfl dk_3) rfl (fun c23 => ?_) (fun c23 => ?_)
          · replace H := dz_it c23 H
            replace H := dz_sm H
            exact H
          · replace H := dz_if c23 H
            refine wp_s (i := .aload_n 0) (n := 1) (pc' := 114) (st' := [.ref 114]) rfl rfl ?_
            refine wp_s (i := .iconst 2) (n := 1) (pc' := 115) (st' := [dz_I 2, .ref 114]) rfl rfl ?_
            refine wq_cv (Dq := (D + 4)) (r' := mm_r124) (as0 := [dz_I 2]) (rest := []) (ls' := [some (.ref 114), some (dz_I 2)]) (pc' := 118) rfl rfl rfl rfl ho_M rfl rfl rfl ?_
            refine jw_M_fails (X := X) (D := D + 4) 2 q16 (dz_pm (dz_bi H) (fun q24 H => ?_))
            show mm_Wp X (D + 5) mm_r133 118 [some (.ref 114), some (dz_I q1)] [] (hz_0 q24) Q
            replace H := dz_sm H
            exact H
    · skip
      refine wq_ic (p := 4 < dz_c q1) (tt := 36) (pc' := 28) rfl rfl (cq_gt rfl dk_4) rfl (fun c25 => ?_) (fun c25 => ?_)
      · replace H := dz_it c25 H
        refine wp_s (i := .aload_n 0) (n := 1) (pc' := 37) (st' := [.ref 114]) rfl rfl ?_
        refine wq_gi (idx := 158) (pc' := 40) rfl rfl ho_M rfl rfl ?_
        refine wp_s (i := .iload_n 1) (n := 1) (pc' := 41) (st' := [dz_I q1, dz_I (Z 114 20 0)]) rfl rfl ?_
        refine wq_2 (i := .ishr) (z := dz_sr (Z 114 20 0) q1) (pc' := 42) rfl rfl (op_shr _ _) rfl ?_
        refine wp_s (i := .iconst 1) (n := 1) (pc' := 43) (st' := [dz_I 1, dz_I (dz_sr (Z 114 20 0) q1)]) rfl rfl ?_
        refine wq_2 (i := .iand) (z := dz_an (dz_sr (Z 114 20 0) q1) 1) (pc' := 44) rfl rfl (op_and _ _) rfl ?_
        refine wp_s (i := .iconst 1) (n := 1) (pc' := 45) (st' := [dz_I 1, dz_I (dz_an (dz_sr (Z 114 20 0) q1) 1)]) rfl rfl ?_
        refine dz_jn (P := fun (q28 : dz_Z) => mm_Wp X (D + 5) mm_r133 53 [some (.ref 114), some (dz_I q1)] [] (hz_0 q28) Q) (dz_bi H) (fun q28 H => ?_) (fun H => ?_)
        · skip
          refine wp_s (i := .aload_n 0) (n := 1) (pc' := 54) (st' := [.ref 114]) rfl rfl ?_
          refine wp_s (i := .dup) (n := 1) (pc' := 55) (st' := [.ref 114, .ref 114]) rfl rfl ?_
          refine wq_gi (idx := 158) (pc' := 58) rfl rfl ho_M rfl rfl ?_
          refine wp_s (i := .iconst 1) (n := 1) (pc' := 59) (st' := [dz_I 1, dz_I (q28 114 20 0), .ref 114]) rfl rfl ?_
          refine wp_s (i := .iload_n 1) (n := 1) (pc' := 60) (st' := [dz_I q1, dz_I 1, dz_I (q28 114 20 0), .ref 114]) rfl rfl ?_
          refine wq_2 (i := .ishl) (z := dz_sl 1 q1) (pc' := 61) rfl rfl (op_shl _ _) rfl ?_
          refine wq_2 (i := .ior) (z := dz_or (q28 114 20 0) (dz_sl 1 q1)) (pc' := 62) rfl rfl (op_or _ _) rfl ?_
          refine wq_pi (idx := 158) (x := dz_or (q28 114 20 0) (dz_sl 1 q1)) (pc' := 65) rfl rfl rfl ho_M rfl rfl rfl rfl (fun Z29 eZ29 => ?_)
          replace H := dz_le H Z29 eZ29
          clear eZ29
          refine wp_s (i := .aload_n 0) (n := 1) (pc' := 66) (st' := [.ref 114]) rfl rfl ?_
          refine wq_cv (Dq := (D + 4)) (r' := mm_r126) (as0 := []) (rest := []) (ls' := [some (.ref 114), none]) (pc' := 69) rfl rfl rfl rfl ho_M rfl rfl rfl ?_
          refine jw_M_step (X := X) (D := D + 3) Z29 (dz_pm (dz_bi H) (fun q30 H => ?_))
          show mm_Wp X (D + 5) mm_r133 69 [some (.ref 114), some (dz_I q1)] [] (hz_0 q30) Q
          refine wp_s (i := .iload_n 1) (n := 1) (pc' := 70) (st' := [dz_I q1]) rfl rfl ?_
          refine wp_s (i := .iconst 5) (n := 1) (pc' := 71) (st' := [dz_I 5, dz_I q1]) rfl rfl ?_
          refine wq_ic (p := dz_c q1 ≠ 5) (tt := 86) (pc' := 74) rfl rfl (cq_ne rfl dk_5) rfl (fun c31 => ?_) (fun c31 => ?_)
          · replace H := dz_it c31 H
            refine wp_s (i := .aload_n 0) (n := 1) (pc' := 87) (st' := [.ref 114]) rfl rfl ?_
            refine wp_s (i := .aload_n 0) (n := 1) (pc' := 88) (st' := [.ref 114, .ref 114]) rfl rfl ?_
            refine wp_s (i := .iconst 0) (n := 1) (pc' := 89) (st' := [dz_I 0, .ref 114, .ref 114]) rfl rfl ?_
            refine wp_s (i := .sipush 999) (n := 3) (pc' := 92) (st' := [dz_I 999, dz_I 0, .ref 114, .ref 114]) rfl rfl ?_
            refine wq_cv (Dq := (D + 4)) (r' := mm_r128) (as0 := [dz_I 0, dz_I 999]) (rest := [.ref 114]) (ls' := [some (.ref 114), some (dz_I 0), some (dz_I 999), none]) (pc' := 95) rfl rfl rfl rfl ho_M rfl rfl rfl ?_
            refine jw_M_number (X := X) (D := D + 2) 0 999 q30 (dz_pm (dz_bi H) (fun q32 H => ?_))
            show mm_Wp X (D + 5) mm_r133 95 [some (.ref 114), some (dz_I q1)] [dz_I q32.1, .ref 114] (hz_0 q32.2) Q
            refine wq_pi (idx := 161) (x := q32.1) (pc' := 98) rfl rfl rfl ho_M rfl rfl rfl rfl (fun Z33 eZ33 => ?_)
            replace H := dz_le H Z33 eZ33
            clear eZ33
            replace H := dz_sm H
            exact H
          · replace H := dz_if c31 H
            refine wp_s (i := .aload_n 0) (n := 1) (pc' := 75) (st' := [.ref 114]) rfl rfl ?_
            refine wp_s (i := .bipush 73) (n := 2) (pc' := 77) (st' := [dz_I 73, .ref 114]) rfl rfl ?_
            refine wp_s (i := .sipush 255) (n := 3) (pc' := 80) (st' := [dz_I 255, dz_I 73, .ref 114]) rfl rfl ?_
            refine wq_cv (Dq := (D + 4)) (r' := mm_r131) (as0 := [dz_I 73, dz_I 255]) (rest := []) (ls' := [some (.ref 114), some (dz_I 73), some (dz_I 255), none, none]) (pc' := 83) rfl rfl rfl rfl ho_M rfl rfl rfl ?_
            refine jw_M_readSeconds (X := X) (D := D + 1) 73 255 q30 (dz_pm (dz_bi H) (fun q34 H => ?_))
            show mm_Wp X (D + 5) mm_r133 83 [some (.ref 114), some (dz_I q1)] [] (hz_0 q34) Q
            refine wp_s (i := .goto 15) (n := 3) (pc' := 98) (st' := []) rfl rfl ?_
            replace H := dz_sm H
            exact H
        · skip
          refine wq_ic (p := dz_c (dz_an (dz_sr (Z 114 20 0) q1) 1) ≠ 1) (tt := 53) (pc' := 48) rfl rfl (cq_ne rfl dk_1) rfl (fun c35 => ?_) (fun c35 => ?_)
          · replace H := dz_it c35 H
            replace H := dz_sm H
            exact H
          · replace H := dz_if c35 H
            refine wp_s (i := .aload_n 0) (n := 1) (pc' := 49) (st' := [.ref 114]) rfl rfl ?_
            refine wp_s (i := .iconst 4) (n := 1) (pc' := 50) (st' := [dz_I 4, .ref 114]) rfl rfl ?_
            refine wq_cv (Dq := (D + 4)) (r' := mm_r124) (as0 := [dz_I 4]) (rest := []) (ls' := [some (.ref 114), some (dz_I 4)]) (pc' := 53) rfl rfl rfl rfl ho_M rfl rfl rfl ?_
            refine jw_M_fails (X := X) (D := D + 4) 4 Z (dz_pm (dz_bi H) (fun q36 H => ?_))
            show mm_Wp X (D + 5) mm_r133 53 [some (.ref 114), some (dz_I q1)] [] (hz_0 q36) Q
            replace H := dz_sm H
            exact H
      · replace H := dz_if c25 H
        refine wp_s (i := .aload_n 0) (n := 1) (pc' := 29) (st' := [.ref 114]) rfl rfl ?_
        refine wp_s (i := .iload_n 1) (n := 1) (pc' := 30) (st' := [dz_I q1, .ref 114]) rfl rfl ?_
        refine wq_cv (Dq := (D + 4)) (r' := mm_r132) (as0 := [dz_I q1]) (rest := []) (ls' := [some (.ref 114), some (dz_I q1), none, none]) (pc' := 33) rfl rfl rfl rfl ho_M rfl rfl rfl ?_
        refine jw_M_readThing (X := X) (D := D + 0) q1 Z (dz_pm (dz_bi H) (fun q37 H => ?_))
        show mm_Wp X (D + 5) mm_r133 33 [some (.ref 114), some (dz_I q1)] [] (hz_0 q37) Q
        refine wp_s (i := .goto 65) (n := 3) (pc' := 98) (st' := []) rfl rfl ?_
        replace H := dz_sm H
        exact H
  · replace H := dz_if c2 H
    refine wp_s (i := .aload_n 0) (n := 1) (pc' := 18) (st' := [.ref 114]) rfl rfl ?_
    refine wp_s (i := .iconst 2) (n := 1) (pc' := 19) (st' := [dz_I 2, .ref 114]) rfl rfl ?_
    refine wq_cv (Dq := (D + 4)) (r' := mm_r124) (as0 := [dz_I 2]) (rest := []) (ls' := [some (.ref 114), some (dz_I 2)]) (pc' := 22) rfl rfl rfl rfl ho_M rfl rfl rfl ?_
    refine jw_M_fails (X := X) (D := D + 4) 2 Z (dz_pm (dz_bi H) (fun q38 H => ?_))
    show mm_Wp X (D + 5) mm_r133 22 [some (.ref 114), some (dz_I q1)] [] (hz_0 q38) Q
    refine wq_rv rfl rfl ?_
    replace H := dz_sm H
    exact H
-- 134
def jf_M_takes (Z : dz_Z) : Option (dz_Z) := dz_lp (fun (s1 : Int × dz_Z) => if 140 ≤ dz_c s1.1 then (dz_lp (fun (s3 : Int × dz_Z) => if 12 ≤ dz_c s3.1 then (dz_a (dz_u s3.2 114 1 0 (s3.2 114 16 0)) fun Z5 => dz_a (dz_u Z5 114 2 0 (Z5 114 16 1)) fun Z6 => dz_a (dz_u Z6 114 3 0 (Z6 114 16 2)) fun Z7 => dz_a (dz_u Z7 114 4 0 (Z7 114 16 3)) fun Z8 => dz_a (dz_u Z8 114 5 0 (Z8 114 16 4)) fun Z9 => dz_a (dz_u Z9 114 6 0 (Z9 114 17 0)) fun Z10 => dz_a (dz_u Z10 114 41 0 0) fun Z11 => dz_a (dz_u Z11 114 41 1 0) fun Z12 => some (Sum.inr (Sum.inr Z12))) else (if 0 ≤ dz_c (Int.tmod (dz_c s3.1) 8) ∧ dz_c (Int.tmod (dz_c s3.1) 8) < 8 then dz_a (dz_u s3.2 114 7 (dz_c (Int.tmod (dz_c s3.1) 8)) (s3.2 114 12 (dz_c (Int.tmod (dz_c s3.1) 8)))) fun Z14 => if 0 ≤ dz_c (Int.tmod (dz_c s3.1) 10) ∧ dz_c (Int.tmod (dz_c s3.1) 10) < 10 then dz_a (dz_u Z14 114 8 (dz_c (Int.tmod (dz_c s3.1) 10)) (Z14 114 13 (dz_c (Int.tmod (dz_c s3.1) 10)))) fun Z16 => dz_a (dz_u Z16 114 9 (dz_c (Int.tmod (dz_c s3.1) 8)) (Z16 114 14 (dz_c (Int.tmod (dz_c s3.1) 8)))) fun Z17 => if 0 ≤ dz_c s3.1 ∧ dz_c s3.1 < 12 then dz_a (dz_u Z17 114 10 (dz_c s3.1) (Z17 114 15 (dz_c s3.1))) fun Z19 => some (Sum.inl (s3.1 + 1, Z19)) else none else none else none)) 5000 (0, s1.2)) else (if 0 ≤ dz_c s1.1 ∧ dz_c s1.1 < 140 then if 0 ≤ dz_c s1.1 ∧ dz_c s1.1 < 700 then dz_a (dz_u s1.2 114 0 (dz_c s1.1) (s1.2 114 11 (dz_c s1.1))) fun Z22 => some (Sum.inl (s1.1 + 1, Z22)) else none else none)) 5000 (0, Z)
set_option maxRecDepth 20000 in
theorem jw_M_takes {X : Option (List Int32)} {D : Nat} {Q : Option Value → mm_H → Prop} (Z : dz_Z) (H : dz_p (jf_M_takes Z) (fun q => Q (none) (hz_0 q))) : mm_Wp X D mm_r134 0 [some (.ref 114), none] [] (hz_0 Z) Q := by
  unfold jf_M_takes at H
  refine wp_s (i := .iconst 0) (n := 1) (pc' := 1) (st' := [dz_I 0]) rfl rfl ?_
  refine wq_st (k := 1) (i := .istore_n 1) (n := 1) (ls' := [some (.ref 114), some (dz_I 0)]) (pc' := 2) rfl rfl rfl rfl rfl ?_
  refine dz_lpi (P := fun (s1 : Int × dz_Z) => mm_Wp X D mm_r134 2 [some (.ref 114), some (dz_I s1.1)] [] (hz_0 s1.2) Q) (fun s1 H => ?_) 5000 (0, Z) H
  refine wp_s (i := .iload_n 1) (n := 1) (pc' := 3) (st' := [dz_I s1.1]) rfl rfl ?_
  refine wp_s (i := .sipush 140) (n := 3) (pc' := 6) (st' := [dz_I 140, dz_I s1.1]) rfl rfl ?_
  refine wq_ic (p := 140 ≤ dz_c s1.1) (tt := 27) (pc' := 9) rfl rfl (cq_ge rfl dk_140) rfl (fun c2 => ?_) (fun c2 => ?_)
  · replace H := dz_it c2 H
    refine wp_s (i := .iconst 0) (n := 1) (pc' := 28) (st' := [dz_I 0]) rfl rfl ?_
    refine wq_st (k := 1) (i := .istore_n 1) (n := 1) (ls' := [some (.ref 114), some (dz_I 0)]) (pc' := 29) rfl rfl rfl rfl rfl ?_
    refine dz_lpi (P := fun (s3 : Int × dz_Z) => mm_Wp X D mm_r134 29 [some (.ref 114), some (dz_I s3.1)] [] (hz_0 s3.2) Q) (fun s3 H => ?_) 5000 (0, s1.2) H
    refine wp_s (i := .iload_n 1) (n := 1) (pc' := 30) (st' := [dz_I s3.1]) rfl rfl ?_
    refine wp_s (i := .bipush 12) (n := 2) (pc' := 32) (st' := [dz_I 12, dz_I s3.1]) rfl rfl ?_
    refine wq_ic (p := 12 ≤ dz_c s3.1) (tt := 107) (pc' := 35) rfl rfl (cq_ge rfl dk_12) rfl (fun c4 => ?_) (fun c4 => ?_)
    · replace H := dz_it c4 H
      refine wp_s (i := .aload_n 0) (n := 1) (pc' := 108) (st' := [.ref 114]) rfl rfl ?_
      refine wp_s (i := .aload_n 0) (n := 1) (pc' := 109) (st' := [.ref 114, .ref 114]) rfl rfl ?_
      refine wq_gr (idx := 40) (a := 125) (pc' := 112) rfl rfl ho_M rfl rfl ?_
      refine wp_s (i := .iconst 0) (n := 1) (pc' := 113) (st' := [dz_I 0, .ref 125, .ref 114]) rfl rfl ?_
      refine wq_ia (j' := 0) (pc' := 114) rfl ha_M_16 dk_0 (by decide) (by decide) rfl ?_
      refine wq_pi (idx := 164) (x := s3.2 114 16 0) (pc' := 117) rfl rfl rfl ho_M rfl rfl rfl rfl (fun Z5 eZ5 => ?_)
      replace H := dz_le H Z5 eZ5
      clear eZ5
      refine wp_s (i := .aload_n 0) (n := 1) (pc' := 118) (st' := [.ref 114]) rfl rfl ?_
      refine wp_s (i := .aload_n 0) (n := 1) (pc' := 119) (st' := [.ref 114, .ref 114]) rfl rfl ?_
      refine wq_gr (idx := 40) (a := 125) (pc' := 122) rfl rfl ho_M rfl rfl ?_
      refine wp_s (i := .iconst 1) (n := 1) (pc' := 123) (st' := [dz_I 1, .ref 125, .ref 114]) rfl rfl ?_
      refine wq_ia (j' := 1) (pc' := 124) rfl ha_M_16 dk_1 (by decide) (by decide) rfl ?_
      refine wq_pi (idx := 167) (x := Z5 114 16 1) (pc' := 127) rfl rfl rfl ho_M rfl rfl rfl rfl (fun Z6 eZ6 => ?_)
      replace H := dz_le H Z6 eZ6
      clear eZ6
      refine wp_s (i := .aload_n 0) (n := 1) (pc' := 128) (st' := [.ref 114]) rfl rfl ?_
      refine wp_s (i := .aload_n 0) (n := 1) (pc' := 129) (st' := [.ref 114, .ref 114]) rfl rfl ?_
      refine wq_gr (idx := 40) (a := 125) (pc' := 132) rfl rfl ho_M rfl rfl ?_
      refine wp_s (i := .iconst 2) (n := 1) (pc' := 133) (st' := [dz_I 2, .ref 125, .ref 114]) rfl rfl ?_
      refine wq_ia (j' := 2) (pc' := 134) rfl ha_M_16 dk_2 (by decide) (by decide) rfl ?_
      refine wq_pi (idx := 170) (x := Z6 114 16 2) (pc' := 137) rfl rfl rfl ho_M rfl rfl rfl rfl (fun Z7 eZ7 => ?_)
      replace H := dz_le H Z7 eZ7
      clear eZ7
      refine wp_s (i := .aload_n 0) (n := 1) (pc' := 138) (st' := [.ref 114]) rfl rfl ?_
      refine wp_s (i := .aload_n 0) (n := 1) (pc' := 139) (st' := [.ref 114, .ref 114]) rfl rfl ?_
      refine wq_gr (idx := 40) (a := 125) (pc' := 142) rfl rfl ho_M rfl rfl ?_
      refine wp_s (i := .iconst 3) (n := 1) (pc' := 143) (st' := [dz_I 3, .ref 125, .ref 114]) rfl rfl ?_
      refine wq_ia (j' := 3) (pc' := 144) rfl ha_M_16 dk_3 (by decide) (by decide) rfl ?_
      refine wq_pi (idx := 173) (x := Z7 114 16 3) (pc' := 147) rfl rfl rfl ho_M rfl rfl rfl rfl (fun Z8 eZ8 => ?_)
      replace H := dz_le H Z8 eZ8
      clear eZ8
      refine wp_s (i := .aload_n 0) (n := 1) (pc' := 148) (st' := [.ref 114]) rfl rfl ?_
      refine wp_s (i := .aload_n 0) (n := 1) (pc' := 149) (st' := [.ref 114, .ref 114]) rfl rfl ?_
      refine wq_gr (idx := 40) (a := 125) (pc' := 152) rfl rfl ho_M rfl rfl ?_
      refine wp_s (i := .iconst 4) (n := 1) (pc' := 153) (st' := [dz_I 4, .ref 125, .ref 114]) rfl rfl ?_
      refine wq_ia (j' := 4) (pc' := 154) rfl ha_M_16 dk_4 (by decide) (by decide) rfl ?_
      refine wq_pi (idx := 176) (x := Z8 114 16 4) (pc' := 157) rfl rfl rfl ho_M rfl rfl rfl rfl (fun Z9 eZ9 => ?_)
      replace H := dz_le H Z9 eZ9
      clear eZ9
      refine wp_s (i := .aload_n 0) (n := 1) (pc' := 158) (st' := [.ref 114]) rfl rfl ?_
      refine wp_s (i := .aload_n 0) (n := 1) (pc' := 159) (st' := [.ref 114, .ref 114]) rfl rfl ?_
      refine wq_gi (idx := 161) (pc' := 162) rfl rfl ho_M rfl rfl ?_
      refine wq_pi (idx := 179) (x := Z9 114 17 0) (pc' := 165) rfl rfl rfl ho_M rfl rfl rfl rfl (fun Z10 eZ10 => ?_)
      replace H := dz_le H Z10 eZ10
      clear eZ10
      refine wp_s (i := .aload_n 0) (n := 1) (pc' := 166) (st' := [.ref 114]) rfl rfl ?_
      refine wq_gr (idx := 64) (a := 133) (pc' := 169) rfl rfl ho_M rfl rfl ?_
      refine wp_s (i := .iconst 0) (n := 1) (pc' := 170) (st' := [dz_I 0, .ref 133]) rfl rfl ?_
      refine wp_s (i := .iconst 0) (n := 1) (pc' := 171) (st' := [dz_I 0, dz_I 0, .ref 133]) rfl rfl ?_
      refine wq_zs (j' := 0) (x := 0) (pc' := 172) rfl ha_M_41 rfl dk_0 (by decide) (by decide) rfl (fun Z11 eZ11 => ?_)
      replace H := dz_le H Z11 eZ11
      clear eZ11
      refine wp_s (i := .aload_n 0) (n := 1) (pc' := 173) (st' := [.ref 114]) rfl rfl ?_
      refine wq_gr (idx := 64) (a := 133) (pc' := 176) rfl rfl ho_M rfl rfl ?_
      refine wp_s (i := .iconst 1) (n := 1) (pc' := 177) (st' := [dz_I 1, .ref 133]) rfl rfl ?_
      refine wp_s (i := .iconst 0) (n := 1) (pc' := 178) (st' := [dz_I 0, dz_I 1, .ref 133]) rfl rfl ?_
      refine wq_zs (j' := 1) (x := 0) (pc' := 179) rfl ha_M_41 rfl dk_1 (by decide) (by decide) rfl (fun Z12 eZ12 => ?_)
      replace H := dz_le H Z12 eZ12
      clear eZ12
      refine wq_rv rfl rfl ?_
      replace H := dz_out H
      replace H := dz_out H
      replace H := dz_sm H
      exact H
    · replace H := dz_if c4 H
      refine wp_s (i := .aload_n 0) (n := 1) (pc' := 36) (st' := [.ref 114]) rfl rfl ?_
      refine wq_gr (idx := 13) (a := 116) (pc' := 39) rfl rfl ho_M rfl rfl ?_
      refine wp_s (i := .iload_n 1) (n := 1) (pc' := 40) (st' := [dz_I s3.1, .ref 116]) rfl rfl ?_
      refine wp_s (i := .bipush 8) (n := 2) (pc' := 42) (st' := [dz_I 8, dz_I s3.1, .ref 116]) rfl rfl ?_
      refine wq_2 (i := .irem) (z := Int.tmod (dz_c s3.1) 8) (pc' := 43) rfl rfl (op_rem rfl dk_8 (by decide)) rfl ?_
      refine wp_s (i := .aload_n 0) (n := 1) (pc' := 44) (st' := [.ref 114, dz_I (Int.tmod (dz_c s3.1) 8), .ref 116]) rfl rfl ?_
      refine wq_gr (idx := 28) (a := 121) (pc' := 47) rfl rfl ho_M rfl rfl ?_
      refine wp_s (i := .iload_n 1) (n := 1) (pc' := 48) (st' := [dz_I s3.1, .ref 121, dz_I (Int.tmod (dz_c s3.1) 8), .ref 116]) rfl rfl ?_
      refine wp_s (i := .bipush 8) (n := 2) (pc' := 50) (st' := [dz_I 8, dz_I s3.1, .ref 121, dz_I (Int.tmod (dz_c s3.1) 8), .ref 116]) rfl rfl ?_
      refine wq_2 (i := .irem) (z := Int.tmod (dz_c s3.1) 8) (pc' := 51) rfl rfl (op_rem rfl dk_8 (by decide)) rfl ?_
      obtain ⟨k13, H⟩ := dz_ck H
      refine wq_ia (j' := dz_c (Int.tmod (dz_c s3.1) 8)) (pc' := 52) rfl ha_M_12 rfl k13.1 k13.2 rfl ?_
      refine wq_is (j' := dz_c (Int.tmod (dz_c s3.1) 8)) (x := s3.2 114 12 (dz_c (Int.tmod (dz_c s3.1) 8))) (pc' := 53) rfl ha_M_7 rfl k13.1 k13.2 rfl (fun Z14 eZ14 => ?_)
      replace H := dz_le H Z14 eZ14
      clear eZ14
      refine wp_s (i := .aload_n 0) (n := 1) (pc' := 54) (st' := [.ref 114]) rfl rfl ?_
      refine wq_gr (idx := 16) (a := 117) (pc' := 57) rfl rfl ho_M rfl rfl ?_
      refine wp_s (i := .iload_n 1) (n := 1) (pc' := 58) (st' := [dz_I s3.1, .ref 117]) rfl rfl ?_
      refine wp_s (i := .bipush 10) (n := 2) (pc' := 60) (st' := [dz_I 10, dz_I s3.1, .ref 117]) rfl rfl ?_
      refine wq_2 (i := .irem) (z := Int.tmod (dz_c s3.1) 10) (pc' := 61) rfl rfl (op_rem rfl dk_10 (by decide)) rfl ?_
      refine wp_s (i := .aload_n 0) (n := 1) (pc' := 62) (st' := [.ref 114, dz_I (Int.tmod (dz_c s3.1) 10), .ref 117]) rfl rfl ?_
      refine wq_gr (idx := 31) (a := 122) (pc' := 65) rfl rfl ho_M rfl rfl ?_
      refine wp_s (i := .iload_n 1) (n := 1) (pc' := 66) (st' := [dz_I s3.1, .ref 122, dz_I (Int.tmod (dz_c s3.1) 10), .ref 117]) rfl rfl ?_
      refine wp_s (i := .bipush 10) (n := 2) (pc' := 68) (st' := [dz_I 10, dz_I s3.1, .ref 122, dz_I (Int.tmod (dz_c s3.1) 10), .ref 117]) rfl rfl ?_
      refine wq_2 (i := .irem) (z := Int.tmod (dz_c s3.1) 10) (pc' := 69) rfl rfl (op_rem rfl dk_10 (by decide)) rfl ?_
      obtain ⟨k15, H⟩ := dz_ck H
      refine wq_ia (j' := dz_c (Int.tmod (dz_c s3.1) 10)) (pc' := 70) rfl ha_M_13 rfl k15.1 k15.2 rfl ?_
      refine wq_is (j' := dz_c (Int.tmod (dz_c s3.1) 10)) (x := Z14 114 13 (dz_c (Int.tmod (dz_c s3.1) 10))) (pc' := 71) rfl ha_M_8 rfl k15.1 k15.2 rfl (fun Z16 eZ16 => ?_)
      replace H := dz_le H Z16 eZ16
      clear eZ16
      refine wp_s (i := .aload_n 0) (n := 1) (pc' := 72) (st' := [.ref 114]) rfl rfl ?_
      refine wq_gr (idx := 19) (a := 118) (pc' := 75) rfl rfl ho_M rfl rfl ?_
      refine wp_s (i := .iload_n 1) (n := 1) (pc' := 76) (st' := [dz_I s3.1, .ref 118]) rfl rfl ?_
      refine wp_s (i := .bipush 8) (n := 2) (pc' := 78) (st' := [dz_I 8, dz_I s3.1, .ref 118]) rfl rfl ?_
      refine wq_2 (i := .irem) (z := Int.tmod (dz_c s3.1) 8) (pc' := 79) rfl rfl (op_rem rfl dk_8 (by decide)) rfl ?_
      refine wp_s (i := .aload_n 0) (n := 1) (pc' := 80) (st' := [.ref 114, dz_I (Int.tmod (dz_c s3.1) 8), .ref 118]) rfl rfl ?_
      refine wq_gr (idx := 34) (a := 123) (pc' := 83) rfl rfl ho_M rfl rfl ?_
      refine wp_s (i := .iload_n 1) (n := 1) (pc' := 84) (st' := [dz_I s3.1, .ref 123, dz_I (Int.tmod (dz_c s3.1) 8), .ref 118]) rfl rfl ?_
      refine wp_s (i := .bipush 8) (n := 2) (pc' := 86) (st' := [dz_I 8, dz_I s3.1, .ref 123, dz_I (Int.tmod (dz_c s3.1) 8), .ref 118]) rfl rfl ?_
      refine wq_2 (i := .irem) (z := Int.tmod (dz_c s3.1) 8) (pc' := 87) rfl rfl (op_rem rfl dk_8 (by decide)) rfl ?_
      refine wq_ia (j' := dz_c (Int.tmod (dz_c s3.1) 8)) (pc' := 88) rfl ha_M_14 rfl k13.1 k13.2 rfl ?_
      refine wq_is (j' := dz_c (Int.tmod (dz_c s3.1) 8)) (x := Z16 114 14 (dz_c (Int.tmod (dz_c s3.1) 8))) (pc' := 89) rfl ha_M_9 rfl k13.1 k13.2 rfl (fun Z17 eZ17 => ?_)
      replace H := dz_le H Z17 eZ17
      clear eZ17
      refine wp_s (i := .aload_n 0) (n := 1) (pc' := 90) (st' := [.ref 114]) rfl rfl ?_
      refine wq_gr (idx := 22) (a := 119) (pc' := 93) rfl rfl ho_M rfl rfl ?_
      refine wp_s (i := .iload_n 1) (n := 1) (pc' := 94) (st' := [dz_I s3.1, .ref 119]) rfl rfl ?_
      refine wp_s (i := .aload_n 0) (n := 1) (pc' := 95) (st' := [.ref 114, dz_I s3.1, .ref 119]) rfl rfl ?_
      refine wq_gr (idx := 37) (a := 124) (pc' := 98) rfl rfl ho_M rfl rfl ?_
      refine wp_s (i := .iload_n 1) (n := 1) (pc' := 99) (st' := [dz_I s3.1, .ref 124, dz_I s3.1, .ref 119]) rfl rfl ?_
      obtain ⟨k18, H⟩ := dz_ck H
      refine wq_ia (j' := dz_c s3.1) (pc' := 100) rfl ha_M_15 rfl k18.1 k18.2 rfl ?_
      refine wq_is (j' := dz_c s3.1) (x := Z17 114 15 (dz_c s3.1)) (pc' := 101) rfl ha_M_10 rfl k18.1 k18.2 rfl (fun Z19 eZ19 => ?_)
      replace H := dz_le H Z19 eZ19
      clear eZ19
      refine wq_inc (k := 1) (d := 1) (x := s3.1) (ls' := [some (.ref 114), some (dz_I (s3.1 + 1))]) (pc' := 104) rfl rfl rfl rfl ?_
      refine wp_s (i := .goto (-75)) (n := 3) (pc' := 29) (st' := []) rfl rfl ?_
      replace H := dz_back H
      exact H
  · replace H := dz_if c2 H
    refine wp_s (i := .aload_n 0) (n := 1) (pc' := 10) (st' := [.ref 114]) rfl rfl ?_
    refine wq_gr (idx := 7) (a := 115) (pc' := 13) rfl rfl ho_M rfl rfl ?_
    refine wp_s (i := .iload_n 1) (n := 1) (pc' := 14) (st' := [dz_I s1.1, .ref 115]) rfl rfl ?_
    refine wp_s (i := .aload_n 0) (n := 1) (pc' := 15) (st' := [.ref 114, dz_I s1.1, .ref 115]) rfl rfl ?_
    refine wq_gr (idx := 25) (a := 120) (pc' := 18) rfl rfl ho_M rfl rfl ?_
    refine wp_s (i := .iload_n 1) (n := 1) (pc' := 19) (st' := [dz_I s1.1, .ref 120, dz_I s1.1, .ref 115]) rfl rfl ?_
    obtain ⟨k20, H⟩ := dz_ck H
    refine wq_ia (j' := dz_c s1.1) (pc' := 20) rfl ha_M_11 rfl k20.1 k20.2 rfl ?_
    obtain ⟨k21, H⟩ := dz_ck H
    refine wq_is (j' := dz_c s1.1) (x := s1.2 114 11 (dz_c s1.1)) (pc' := 21) rfl ha_M_0 rfl k21.1 k21.2 rfl (fun Z22 eZ22 => ?_)
    replace H := dz_le H Z22 eZ22
    clear eZ22
    refine wq_inc (k := 1) (d := 1) (x := s1.1) (ls' := [some (.ref 114), some (dz_I (s1.1 + 1))]) (pc' := 24) rfl rfl rfl rfl ?_
    refine wp_s (i := .goto (-22)) (n := 3) (pc' := 2) (st' := []) rfl rfl ?_
    replace H := dz_back H
    exact H
-- 135
def jf_M_organ (Z : dz_Z) : Option (Int × dz_Z) := dz_a (dz_u Z 114 24 0 0) fun Z1 => dz_a (dz_u Z1 114 26 0 0) fun Z2 => dz_a (dz_u Z2 114 20 0 0) fun Z3 => dz_a (dz_u Z3 114 17 0 0) fun Z4 => dz_a (dz_u Z4 114 18 0 (-1)) fun Z5 => dz_a (dz_u Z5 114 19 0 (-1)) fun Z6 => dz_lp (fun (s7 : Int × dz_Z) => if 140 ≤ dz_c s7.1 then (Option.bind (jf_M_step s7.2) fun q9 => dz_lp (fun (s10 : Int × dz_Z) => if dz_c (s10.2 114 24 0) ≠ 0 then (Option.bind (α := dz_Z) (if dz_c (s10.2 114 24 0) ≠ 0 then (some s10.2) else (if dz_c (s10.2 114 16 1) ≤ dz_c (s10.2 114 18 0) then (Option.bind (jf_M_fails 6 s10.2) fun q24 => some q24) else (if dz_c (s10.2 114 19 0) < dz_c (s10.2 114 16 2) then (some s10.2) else (Option.bind (jf_M_fails 6 s10.2) fun q26 => some q26)))) (fun (q17 : dz_Z) => dz_a (dz_u q17 114 22 0 0) fun Z18 => dz_a (dz_u Z18 114 23 0 (Z18 114 24 0)) fun Z19 => if dz_c (Z19 114 24 0) ≤ 0 then (Option.bind (jf_M_takes Z19) fun q21 => some (Sum.inr (Sum.inr (s10.1, q21)))) else (some (Sum.inr (Sum.inr ((-10) - (Z19 114 25 0), Z19)))))) else (if dz_c (s10.2 114 28 0) = 0 then (Option.bind (α := dz_Z) (if dz_c (s10.2 114 24 0) ≠ 0 then (some s10.2) else (if dz_c (s10.2 114 16 1) ≤ dz_c (s10.2 114 18 0) then (Option.bind (jf_M_fails 6 s10.2) fun q40 => some q40) else (if dz_c (s10.2 114 19 0) < dz_c (s10.2 114 16 2) then (some s10.2) else (Option.bind (jf_M_fails 6 s10.2) fun q42 => some q42)))) (fun (q33 : dz_Z) => dz_a (dz_u q33 114 22 0 0) fun Z34 => dz_a (dz_u Z34 114 23 0 (Z34 114 24 0)) fun Z35 => if dz_c (Z35 114 24 0) ≤ 0 then (Option.bind (jf_M_takes Z35) fun q37 => some (Sum.inr (Sum.inr (s10.1, q37)))) else (some (Sum.inr (Sum.inr ((-10) - (Z35 114 25 0), Z35)))))) else (Option.bind (jf_M_readLine s10.2) fun q43 => some (Sum.inl (s10.1 + 1, q43))))) 5000 (0, q9)) else (if 0 ≤ dz_c s7.1 ∧ dz_c s7.1 < 140 then dz_a (dz_u s7.2 114 11 (dz_c s7.1) 0) fun Z45 => if 0 ≤ dz_c (Int.tmod (dz_c s7.1) 5) ∧ dz_c (Int.tmod (dz_c s7.1) 5) < 5 then dz_a (dz_u Z45 114 16 (dz_c (Int.tmod (dz_c s7.1) 5)) 0) fun Z47 => some (Sum.inl (s7.1 + 1, Z47)) else none else none)) 5000 (0, Z6)
set_option maxRecDepth 20000 in
theorem jw_M_organ {X : Option (List Int32)} {D : Nat} {Q : Option Value → mm_H → Prop} (Z : dz_Z) (H : dz_p (jf_M_organ Z) (fun q => Q (some (dz_I q.1)) (hz_0 q.2))) : mm_Wp X (D + 6) mm_r135 0 [some (.ref 114), none, none] [] (hz_0 Z) Q := by
  unfold jf_M_organ at H
  refine wp_s (i := .aload_n 0) (n := 1) (pc' := 1) (st' := [.ref 114]) rfl rfl ?_
  refine wp_s (i := .iconst 0) (n := 1) (pc' := 2) (st' := [dz_I 0, .ref 114]) rfl rfl ?_
  refine wq_pi (idx := 85) (x := 0) (pc' := 5) rfl rfl rfl ho_M rfl rfl rfl rfl (fun Z1 eZ1 => ?_)
  replace H := dz_le H Z1 eZ1
  clear eZ1
  refine wp_s (i := .aload_n 0) (n := 1) (pc' := 6) (st' := [.ref 114]) rfl rfl ?_
  refine wp_s (i := .iconst 0) (n := 1) (pc' := 7) (st' := [dz_I 0, .ref 114]) rfl rfl ?_
  refine wq_pi (idx := 97) (x := 0) (pc' := 10) rfl rfl rfl ho_M rfl rfl rfl rfl (fun Z2 eZ2 => ?_)
  replace H := dz_le H Z2 eZ2
  clear eZ2
  refine wp_s (i := .aload_n 0) (n := 1) (pc' := 11) (st' := [.ref 114]) rfl rfl ?_
  refine wp_s (i := .iconst 0) (n := 1) (pc' := 12) (st' := [dz_I 0, .ref 114]) rfl rfl ?_
  refine wq_pi (idx := 158) (x := 0) (pc' := 15) rfl rfl rfl ho_M rfl rfl rfl rfl (fun Z3 eZ3 => ?_)
  replace H := dz_le H Z3 eZ3
  clear eZ3
  refine wp_s (i := .aload_n 0) (n := 1) (pc' := 16) (st' := [.ref 114]) rfl rfl ?_
  refine wp_s (i := .iconst 0) (n := 1) (pc' := 17) (st' := [dz_I 0, .ref 114]) rfl rfl ?_
  refine wq_pi (idx := 161) (x := 0) (pc' := 20) rfl rfl rfl ho_M rfl rfl rfl rfl (fun Z4 eZ4 => ?_)
  replace H := dz_le H Z4 eZ4
  clear eZ4
  refine wp_s (i := .aload_n 0) (n := 1) (pc' := 21) (st' := [.ref 114]) rfl rfl ?_
  refine wp_s (i := .iconst (-1)) (n := 1) (pc' := 22) (st' := [dz_I (-1), .ref 114]) rfl rfl ?_
  refine wq_pi (idx := 130) (x := (-1)) (pc' := 25) rfl rfl rfl ho_M rfl rfl rfl rfl (fun Z5 eZ5 => ?_)
  replace H := dz_le H Z5 eZ5
  clear eZ5
  refine wp_s (i := .aload_n 0) (n := 1) (pc' := 26) (st' := [.ref 114]) rfl rfl ?_
  refine wp_s (i := .iconst (-1)) (n := 1) (pc' := 27) (st' := [dz_I (-1), .ref 114]) rfl rfl ?_
  refine wq_pi (idx := 137) (x := (-1)) (pc' := 30) rfl rfl rfl ho_M rfl rfl rfl rfl (fun Z6 eZ6 => ?_)
  replace H := dz_le H Z6 eZ6
  clear eZ6
  refine wp_s (i := .iconst 0) (n := 1) (pc' := 31) (st' := [dz_I 0]) rfl rfl ?_
  refine wq_st (k := 1) (i := .istore_n 1) (n := 1) (ls' := [some (.ref 114), some (dz_I 0), none]) (pc' := 32) rfl rfl rfl rfl rfl ?_
  refine wp_s (i := .iconst 0) (n := 1) (pc' := 33) (st' := [dz_I 0]) rfl rfl ?_
  refine wq_st (k := 2) (i := .istore_n 2) (n := 1) (ls' := [some (.ref 114), some (dz_I 0), some (dz_I 0)]) (pc' := 34) rfl rfl rfl rfl rfl ?_
  refine dz_lpi (P := fun (s7 : Int × dz_Z) => mm_Wp X (D + 6) mm_r135 34 [some (.ref 114), some (dz_I 0), some (dz_I s7.1)] [] (hz_0 s7.2) Q) (fun s7 H => ?_) 5000 (0, Z6) H
  refine wp_s (i := .iload_n 2) (n := 1) (pc' := 35) (st' := [dz_I s7.1]) rfl rfl ?_
  refine wp_s (i := .sipush 140) (n := 3) (pc' := 38) (st' := [dz_I 140, dz_I s7.1]) rfl rfl ?_
  refine wq_ic (p := 140 ≤ dz_c s7.1) (tt := 63) (pc' := 41) rfl rfl (cq_ge rfl dk_140) rfl (fun c8 => ?_) (fun c8 => ?_)
  · replace H := dz_it c8 H
    refine wp_s (i := .aload_n 0) (n := 1) (pc' := 64) (st' := [.ref 114]) rfl rfl ?_
    refine wq_cv (Dq := (D + 5)) (r' := mm_r126) (as0 := []) (rest := []) (ls' := [some (.ref 114), none]) (pc' := 67) rfl rfl rfl rfl ho_M rfl rfl rfl ?_
    refine jw_M_step (X := X) (D := D + 4) s7.2 (dz_pm (dz_bi H) (fun q9 H => ?_))
    show mm_Wp X (D + 6) mm_r135 67 [some (.ref 114), some (dz_I 0), some (dz_I s7.1)] [] (hz_0 q9) Q
    refine dz_lpi (P := fun (s10 : Int × dz_Z) => mm_Wp X (D + 6) mm_r135 67 [some (.ref 114), some (dz_I s10.1), some (dz_I s7.1)] [] (hz_0 s10.2) Q) (fun s10 H => ?_) 5000 (0, q9) H
    refine wp_s (i := .aload_n 0) (n := 1) (pc' := 68) (st' := [.ref 114]) rfl rfl ?_
    refine wq_gi (idx := 85) (pc' := 71) rfl rfl ho_M rfl rfl ?_
    refine wq_if (p := dz_c (s10.2 114 24 0) ≠ 0) (tt := 91) (pc' := 74) rfl rfl (cz_ne rfl) rfl (fun c11 => ?_) (fun c11 => ?_)
    · replace H := dz_it c11 H
      refine wp_s (i := .aload_n 0) (n := 1) (pc' := 92) (st' := [.ref 114]) rfl rfl ?_
      refine wq_gi (idx := 85) (pc' := 95) rfl rfl ho_M rfl rfl ?_
      refine dz_jn (P := fun (q17 : dz_Z) => mm_Wp X (D + 6) mm_r135 130 [some (.ref 114), some (dz_I s10.1), some (dz_I s7.1)] [] (hz_0 q17) Q) (dz_bi H) (fun q17 H => ?_) (fun H => ?_)
      · skip
        refine wp_s (i := .aload_n 0) (n := 1) (pc' := 131) (st' := [.ref 114]) rfl rfl ?_
        refine wp_s (i := .iconst 0) (n := 1) (pc' := 132) (st' := [dz_I 0, .ref 114]) rfl rfl ?_
        refine wq_pi (idx := 77) (x := 0) (pc' := 135) rfl rfl rfl ho_M rfl rfl rfl rfl (fun Z18 eZ18 => ?_)
        replace H := dz_le H Z18 eZ18
        clear eZ18
        refine wp_s (i := .aload_n 0) (n := 1) (pc' := 136) (st' := [.ref 114]) rfl rfl ?_
        refine wp_s (i := .aload_n 0) (n := 1) (pc' := 137) (st' := [.ref 114, .ref 114]) rfl rfl ?_
        refine wq_gi (idx := 85) (pc' := 140) rfl rfl ho_M rfl rfl ?_
        refine wq_pi (idx := 185) (x := Z18 114 24 0) (pc' := 143) rfl rfl rfl ho_M rfl rfl rfl rfl (fun Z19 eZ19 => ?_)
        replace H := dz_le H Z19 eZ19
        clear eZ19
        refine wp_s (i := .aload_n 0) (n := 1) (pc' := 144) (st' := [.ref 114]) rfl rfl ?_
        refine wq_gi (idx := 85) (pc' := 147) rfl rfl ho_M rfl rfl ?_
        refine wq_if (p := dz_c (Z19 114 24 0) ≤ 0) (tt := 158) (pc' := 150) rfl rfl (cz_le rfl) rfl (fun c20 => ?_) (fun c20 => ?_)
        · replace H := dz_it c20 H
          refine wp_s (i := .aload_n 0) (n := 1) (pc' := 159) (st' := [.ref 114]) rfl rfl ?_
          refine wq_cv (Dq := (D + 5)) (r' := mm_r134) (as0 := []) (rest := []) (ls' := [some (.ref 114), none]) (pc' := 162) rfl rfl rfl rfl ho_M rfl rfl rfl ?_
          refine jw_M_takes (X := X) (D := D + 5) Z19 (dz_pm (dz_bi H) (fun q21 H => ?_))
          show mm_Wp X (D + 6) mm_r135 162 [some (.ref 114), some (dz_I s10.1), some (dz_I s7.1)] [] (hz_0 q21) Q
          refine wp_s (i := .iload_n 1) (n := 1) (pc' := 163) (st' := [dz_I s10.1]) rfl rfl ?_
          refine wq_ri rfl rfl ?_
          replace H := dz_out H
          replace H := dz_out H
          replace H := dz_sm H
          exact H
        · replace H := dz_if c20 H
          refine wp_s (i := .bipush (-10)) (n := 2) (pc' := 152) (st' := [dz_I (-10)]) rfl rfl ?_
          refine wp_s (i := .aload_n 0) (n := 1) (pc' := 153) (st' := [.ref 114, dz_I (-10)]) rfl rfl ?_
          refine wq_gi (idx := 91) (pc' := 156) rfl rfl ho_M rfl rfl ?_
          refine wq_2 (i := .isub) (z := (-10) - (Z19 114 25 0)) (pc' := 157) rfl rfl (op_sub _ _) rfl ?_
          refine wq_ri rfl rfl ?_
          replace H := dz_out H
          replace H := dz_out H
          replace H := dz_sm H
          exact H
      · skip
        refine wq_if (p := dz_c (s10.2 114 24 0) ≠ 0) (tt := 130) (pc' := 98) rfl rfl (cz_ne rfl) rfl (fun c22 => ?_) (fun c22 => ?_)
        · replace H := dz_it c22 H
          replace H := dz_sm H
          exact H
        · replace H := dz_if c22 H
          refine wp_s (i := .aload_n 0) (n := 1) (pc' := 99) (st' := [.ref 114]) rfl rfl ?_
          refine wq_gi (idx := 130) (pc' := 102) rfl rfl ho_M rfl rfl ?_
          refine wp_s (i := .aload_n 0) (n := 1) (pc' := 103) (st' := [.ref 114, dz_I (s10.2 114 18 0)]) rfl rfl ?_
          refine wq_gr (idx := 40) (a := 125) (pc' := 106) rfl rfl ho_M rfl rfl ?_
          refine wp_s (i := .iconst 1) (n := 1) (pc' := 107) (st' := [dz_I 1, .ref 125, dz_I (s10.2 114 18 0)]) rfl rfl ?_
          refine wq_ia (j' := 1) (pc' := 108) rfl ha_M_16 dk_1 (by decide) (by decide) rfl ?_
          refine wq_ic (p := dz_c (s10.2 114 16 1) ≤ dz_c (s10.2 114 18 0)) (tt := 124) (pc' := 111) rfl rfl (cq_ge rfl rfl) rfl (fun c23 => ?_) (fun c23 => ?_)
          · replace H := dz_it c23 H
            refine wp_s (i := .aload_n 0) (n := 1) (pc' := 125) (st' := [.ref 114]) rfl rfl ?_
            refine wp_s (i := .bipush 6) (n := 2) (pc' := 127) (st' := [dz_I 6, .ref 114]) rfl rfl ?_
            refine wq_cv (Dq := (D + 5)) (r' := mm_r124) (as0 := [dz_I 6]) (rest := []) (ls' := [some (.ref 114), some (dz_I 6)]) (pc' := 130) rfl rfl rfl rfl ho_M rfl rfl rfl ?_
            refine jw_M_fails (X := X) (D := D + 5) 6 s10.2 (dz_pm (dz_bi H) (fun q24 H => ?_))
            show mm_Wp X (D + 6) mm_r135 130 [some (.ref 114), some (dz_I s10.1), some (dz_I s7.1)] [] (hz_0 q24) Q
            replace H := dz_sm H
            exact H
          · replace H := dz_if c23 H
            refine wp_s (i := .aload_n 0) (n := 1) (pc' := 112) (st' := [.ref 114]) rfl rfl ?_
            refine wq_gi (idx := 137) (pc' := 115) rfl rfl ho_M rfl rfl ?_
            refine wp_s (i := .aload_n 0) (n := 1) (pc' := 116) (st' := [.ref 114, dz_I (s10.2 114 19 0)]) rfl rfl ?_
            refine wq_gr (idx := 40) (a := 125) (pc' := 119) rfl rfl ho_M rfl rfl ?_
            refine wp_s (i := .iconst 2) (n := 1) (pc' := 120) (st' := [dz_I 2, .ref 125, dz_I (s10.2 114 19 0)]) rfl rfl ?_
            refine wq_ia (j' := 2) (pc' := 121) rfl ha_M_16 dk_2 (by decide) (by decide) rfl ?_
            refine wq_ic (p := dz_c (s10.2 114 19 0) < dz_c (s10.2 114 16 2)) (tt := 130) (pc' := 124) rfl rfl (cq_lt rfl rfl) rfl (fun c25 => ?_) (fun c25 => ?_)
            · replace H := dz_it c25 H
              replace H := dz_sm H
              exact H
            · replace H := dz_if c25 H
              refine wp_s (i := .aload_n 0) (n := 1) (pc' := 125) (st' := [.ref 114]) rfl rfl ?_
              refine wp_s (i := .bipush 6) (n := 2) (pc' := 127) (st' := [dz_I 6, .ref 114]) rfl rfl ?_
              refine wq_cv (Dq := (D + 5)) (r' := mm_r124) (as0 := [dz_I 6]) (rest := []) (ls' := [some (.ref 114), some (dz_I 6)]) (pc' := 130) rfl rfl rfl rfl ho_M rfl rfl rfl ?_
              refine jw_M_fails (X := X) (D := D + 5) 6 s10.2 (dz_pm (dz_bi H) (fun q26 H => ?_))
              show mm_Wp X (D + 6) mm_r135 130 [some (.ref 114), some (dz_I s10.1), some (dz_I s7.1)] [] (hz_0 q26) Q
              replace H := dz_sm H
              exact H
    · replace H := dz_if c11 H
      refine wp_s (i := .aload_n 0) (n := 1) (pc' := 75) (st' := [.ref 114]) rfl rfl ?_
      refine wq_gi (idx := 94) (pc' := 78) rfl rfl ho_M rfl rfl ?_
      refine wq_if (p := dz_c (s10.2 114 28 0) = 0) (tt := 91) (pc' := 81) rfl rfl (cz_eq rfl) rfl (fun c27 => ?_) (fun c27 => ?_)
      · replace H := dz_it c27 H
        refine wp_s (i := .aload_n 0) (n := 1) (pc' := 92) (st' := [.ref 114]) rfl rfl ?_
        refine wq_gi (idx := 85) (pc' := 95) rfl rfl ho_M rfl rfl ?_
        refine dz_jn (P := fun (q33 : dz_Z) => mm_Wp X (D + 6) mm_r135 130 [some (.ref 114), some (dz_I s10.1), some (dz_I s7.1)] [] (hz_0 q33) Q) (dz_bi H) (fun q33 H => ?_) (fun H => ?_)
        · skip
          refine wp_s (i := .aload_n 0) (n := 1) (pc' := 131) (st' := [.ref 114]) rfl rfl ?_
          refine wp_s (i := .iconst 0) (n := 1) (pc' := 132) (st' := [dz_I 0, .ref 114]) rfl rfl ?_
          refine wq_pi (idx := 77) (x := 0) (pc' := 135) rfl rfl rfl ho_M rfl rfl rfl rfl (fun Z34 eZ34 => ?_)
          replace H := dz_le H Z34 eZ34
          clear eZ34
          refine wp_s (i := .aload_n 0) (n := 1) (pc' := 136) (st' := [.ref 114]) rfl rfl ?_
          refine wp_s (i := .aload_n 0) (n := 1) (pc' := 137) (st' := [.ref 114, .ref 114]) rfl rfl ?_
          refine wq_gi (idx := 85) (pc' := 140) rfl rfl ho_M rfl rfl ?_
          refine wq_pi (idx := 185) (x := Z34 114 24 0) (pc' := 143) rfl rfl rfl ho_M rfl rfl rfl rfl (fun Z35 eZ35 => ?_)
          replace H := dz_le H Z35 eZ35
          clear eZ35
          refine wp_s (i := .aload_n 0) (n := 1) (pc' := 144) (st' := [.ref 114]) rfl rfl ?_
          refine wq_gi (idx := 85) (pc' := 147) rfl rfl ho_M rfl rfl ?_
          refine wq_if (p := dz_c (Z35 114 24 0) ≤ 0) (tt := 158) (pc' := 150) rfl rfl (cz_le rfl) rfl (fun c36 => ?_) (fun c36 => ?_)
          · replace H := dz_it c36 H
            refine wp_s (i := .aload_n 0) (n := 1) (pc' := 159) (st' := [.ref 114]) rfl rfl ?_
            refine wq_cv (Dq := (D + 5)) (r' := mm_r134) (as0 := []) (rest := []) (ls' := [some (.ref 114), none]) (pc' := 162) rfl rfl rfl rfl ho_M rfl rfl rfl ?_
            refine jw_M_takes (X := X) (D := D + 5) Z35 (dz_pm (dz_bi H) (fun q37 H => ?_))
            show mm_Wp X (D + 6) mm_r135 162 [some (.ref 114), some (dz_I s10.1), some (dz_I s7.1)] [] (hz_0 q37) Q
            refine wp_s (i := .iload_n 1) (n := 1) (pc' := 163) (st' := [dz_I s10.1]) rfl rfl ?_
            refine wq_ri rfl rfl ?_
            replace H := dz_out H
            replace H := dz_out H
            replace H := dz_sm H
            exact H
          · replace H := dz_if c36 H
            refine wp_s (i := .bipush (-10)) (n := 2) (pc' := 152) (st' := [dz_I (-10)]) rfl rfl ?_
            refine wp_s (i := .aload_n 0) (n := 1) (pc' := 153) (st' := [.ref 114, dz_I (-10)]) rfl rfl ?_
            refine wq_gi (idx := 91) (pc' := 156) rfl rfl ho_M rfl rfl ?_
            refine wq_2 (i := .isub) (z := (-10) - (Z35 114 25 0)) (pc' := 157) rfl rfl (op_sub _ _) rfl ?_
            refine wq_ri rfl rfl ?_
            replace H := dz_out H
            replace H := dz_out H
            replace H := dz_sm H
            exact H
        · skip
          refine wq_if (p := dz_c (s10.2 114 24 0) ≠ 0) (tt := 130) (pc' := 98) rfl rfl (cz_ne rfl) rfl (fun c38 => ?_) (fun c38 => ?_)
          · replace H := dz_it c38 H
            replace H := dz_sm H
            exact H
          · replace H := dz_if c38 H
            refine wp_s (i := .aload_n 0) (n := 1) (pc' := 99) (st' := [.ref 114]) rfl rfl ?_
            refine wq_gi (idx := 130) (pc' := 102) rfl rfl ho_M rfl rfl ?_
            refine wp_s (i := .aload_n 0) (n := 1) (pc' := 103) (st' := [.ref 114, dz_I (s10.2 114 18 0)]) rfl rfl ?_
            refine wq_gr (idx := 40) (a := 125) (pc' := 106) rfl rfl ho_M rfl rfl ?_
            refine wp_s (i := .iconst 1) (n := 1) (pc' := 107) (st' := [dz_I 1, .ref 125, dz_I (s10.2 114 18 0)]) rfl rfl ?_
            refine wq_ia (j' := 1) (pc' := 108) rfl ha_M_16 dk_1 (by decide) (by decide) rfl ?_
            refine wq_ic (p := dz_c (s10.2 114 16 1) ≤ dz_c (s10.2 114 18 0)) (tt := 124) (pc' := 111) rfl rfl (cq_ge rfl rfl) rfl (fun c39 => ?_) (fun c39 => ?_)
            · replace H := dz_it c39 H
              refine wp_s (i := .aload_n 0) (n := 1) (pc' := 125) (st' := [.ref 114]) rfl rfl ?_
              refine wp_s (i := .bipush 6) (n := 2) (pc' := 127) (st' := [dz_I 6, .ref 114]) rfl rfl ?_
              refine wq_cv (Dq := (D + 5)) (r' := mm_r124) (as0 := [dz_I 6]) (rest := []) (ls' := [some (.ref 114), some (dz_I 6)]) (pc' := 130) rfl rfl rfl rfl ho_M rfl rfl rfl ?_
              refine jw_M_fails (X := X) (D := D + 5) 6 s10.2 (dz_pm (dz_bi H) (fun q40 H => ?_))
              show mm_Wp X (D + 6) mm_r135 130 [some (.ref 114), some (dz_I s10.1), some (dz_I s7.1)] [] (hz_0 q40) Q
              replace H := dz_sm H
              exact H
            · replace H := dz_if c39 H
              refine wp_s (i := .aload_n 0) (n := 1) (pc' := 112) (st' := [.ref 114]) rfl rfl ?_
              refine wq_gi (idx := 137) (pc' := 115) rfl rfl ho_M rfl rfl ?_
              refine wp_s (i := .aload_n 0) (n := 1) (pc' := 116) (st' := [.ref 114, dz_I (s10.2 114 19 0)]) rfl rfl ?_
              refine wq_gr (idx := 40) (a := 125) (pc' := 119) rfl rfl ho_M rfl rfl ?_
              refine wp_s (i := .iconst 2) (n := 1) (pc' := 120) (st' := [dz_I 2, .ref 125, dz_I (s10.2 114 19 0)]) rfl rfl ?_
              refine wq_ia (j' := 2) (pc' := 121) rfl ha_M_16 dk_2 (by decide) (by decide) rfl ?_
              refine wq_ic (p := dz_c (s10.2 114 19 0) < dz_c (s10.2 114 16 2)) (tt := 130) (pc' := 124) rfl rfl (cq_lt rfl rfl) rfl (fun c41 => ?_) (fun c41 => ?_)
              · replace H := dz_it c41 H
                replace H := dz_sm H
                exact H
              · replace H := dz_if c41 H
                refine wp_s (i := .aload_n 0) (n := 1) (pc' := 125) (st' := [.ref 114]) rfl rfl ?_
                refine wp_s (i := .bipush 6) (n := 2) (pc' := 127) (st' := [dz_I 6, .ref 114]) rfl rfl ?_
                refine wq_cv (Dq := (D + 5)) (r' := mm_r124) (as0 := [dz_I 6]) (rest := []) (ls' := [some (.ref 114), some (dz_I 6)]) (pc' := 130) rfl rfl rfl rfl ho_M rfl rfl rfl ?_
                refine jw_M_fails (X := X) (D := D + 5) 6 s10.2 (dz_pm (dz_bi H) (fun q42 H => ?_))
                show mm_Wp X (D + 6) mm_r135 130 [some (.ref 114), some (dz_I s10.1), some (dz_I s7.1)] [] (hz_0 q42) Q
                replace H := dz_sm H
                exact H
      · replace H := dz_if c27 H
        refine wp_s (i := .aload_n 0) (n := 1) (pc' := 82) (st' := [.ref 114]) rfl rfl ?_
        refine wq_cv (Dq := (D + 5)) (r' := mm_r133) (as0 := []) (rest := []) (ls' := [some (.ref 114), none]) (pc' := 85) rfl rfl rfl rfl ho_M rfl rfl rfl ?_
        refine jw_M_readLine (X := X) (D := D + 0) s10.2 (dz_pm (dz_bi H) (fun q43 H => ?_))
        show mm_Wp X (D + 6) mm_r135 85 [some (.ref 114), some (dz_I s10.1), some (dz_I s7.1)] [] (hz_0 q43) Q
        refine wq_inc (k := 1) (d := 1) (x := s10.1) (ls' := [some (.ref 114), some (dz_I (s10.1 + 1)), some (dz_I s7.1)]) (pc' := 88) rfl rfl rfl rfl ?_
        refine wp_s (i := .goto (-21)) (n := 3) (pc' := 67) (st' := []) rfl rfl ?_
        replace H := dz_back H
        exact H
  · replace H := dz_if c8 H
    refine wp_s (i := .aload_n 0) (n := 1) (pc' := 42) (st' := [.ref 114]) rfl rfl ?_
    refine wq_gr (idx := 25) (a := 120) (pc' := 45) rfl rfl ho_M rfl rfl ?_
    refine wp_s (i := .iload_n 2) (n := 1) (pc' := 46) (st' := [dz_I s7.1, .ref 120]) rfl rfl ?_
    refine wp_s (i := .iconst 0) (n := 1) (pc' := 47) (st' := [dz_I 0, dz_I s7.1, .ref 120]) rfl rfl ?_
    obtain ⟨k44, H⟩ := dz_ck H
    refine wq_is (j' := dz_c s7.1) (x := 0) (pc' := 48) rfl ha_M_11 rfl k44.1 k44.2 rfl (fun Z45 eZ45 => ?_)
    replace H := dz_le H Z45 eZ45
    clear eZ45
    refine wp_s (i := .aload_n 0) (n := 1) (pc' := 49) (st' := [.ref 114]) rfl rfl ?_
    refine wq_gr (idx := 40) (a := 125) (pc' := 52) rfl rfl ho_M rfl rfl ?_
    refine wp_s (i := .iload_n 2) (n := 1) (pc' := 53) (st' := [dz_I s7.1, .ref 125]) rfl rfl ?_
    refine wp_s (i := .iconst 5) (n := 1) (pc' := 54) (st' := [dz_I 5, dz_I s7.1, .ref 125]) rfl rfl ?_
    refine wq_2 (i := .irem) (z := Int.tmod (dz_c s7.1) 5) (pc' := 55) rfl rfl (op_rem rfl dk_5 (by decide)) rfl ?_
    refine wp_s (i := .iconst 0) (n := 1) (pc' := 56) (st' := [dz_I 0, dz_I (Int.tmod (dz_c s7.1) 5), .ref 125]) rfl rfl ?_
    obtain ⟨k46, H⟩ := dz_ck H
    refine wq_is (j' := dz_c (Int.tmod (dz_c s7.1) 5)) (x := 0) (pc' := 57) rfl ha_M_16 rfl k46.1 k46.2 rfl (fun Z47 eZ47 => ?_)
    replace H := dz_le H Z47 eZ47
    clear eZ47
    refine wq_inc (k := 2) (d := 1) (x := s7.1) (ls' := [some (.ref 114), some (dz_I 0), some (dz_I (s7.1 + 1))]) (pc' := 60) rfl rfl rfl rfl ?_
    refine wp_s (i := .goto (-26)) (n := 3) (pc' := 34) (st' := []) rfl rfl ?_
    replace H := dz_back H
    exact H
-- 136
def jf_M_fault (Z : dz_Z) : Option (Int) := some (Z 114 23 0)
set_option maxRecDepth 20000 in
theorem jw_M_fault {X : Option (List Int32)} {D : Nat} {Q : Option Value → mm_H → Prop} (Z : dz_Z) (H : dz_p (jf_M_fault Z) (fun q => Q (some (dz_I q)) (hz_0 Z))) : mm_Wp X D mm_r136 0 [some (.ref 114)] [] (hz_0 Z) Q := by
  unfold jf_M_fault at H
  refine wp_s (i := .aload_n 0) (n := 1) (pc' := 1) (st' := [.ref 114]) rfl rfl ?_
  refine wq_gi (idx := 185) (pc' := 4) rfl rfl ho_M rfl rfl ?_
  refine wq_ri rfl rfl ?_
  replace H := dz_sm H
  exact H
-- 137
def jf_M_rule (a1 : Int) (Z : dz_Z) : Option (Int) := if dz_c a1 = 0 then (some (Z 114 1 0)) else (if dz_c a1 = 1 then (some (Z 114 2 0)) else (if dz_c a1 = 2 then (some (Z 114 3 0)) else (if dz_c a1 = 3 then (some (Z 114 4 0)) else (if dz_c a1 = 4 then (some (Z 114 0 73)) else (if dz_c a1 = 5 then (some (Z 114 5 0)) else (if dz_c a1 = 6 then (some (Z 114 6 0)) else (some (-1))))))))
set_option maxRecDepth 20000 in
theorem jw_M_rule {X : Option (List Int32)} {D : Nat} {Q : Option Value → mm_H → Prop} (a1 : Int) (Z : dz_Z) (H : dz_p (jf_M_rule a1 Z) (fun q => Q (some (dz_I q)) (hz_0 Z))) : mm_Wp X D mm_r137 0 [some (.ref 114), some (dz_I a1)] [] (hz_0 Z) Q := by
  unfold jf_M_rule at H
  refine wp_s (i := .iload_n 1) (n := 1) (pc' := 1) (st' := [dz_I a1]) rfl rfl ?_
  by_cases c1 : dz_c a1 = 0
  · replace H := dz_it c1 H
    refine wq_ts (x' := dz_c a1) (tt := 44) rfl rfl (by rw [c1]; rfl) ?_
    refine wp_s (i := .aload_n 0) (n := 1) (pc' := 45) (st' := [.ref 114]) rfl rfl ?_
    refine wq_gi (idx := 164) (pc' := 48) rfl rfl ho_M rfl rfl ?_
    refine wq_ri rfl rfl ?_
    replace H := dz_sm H
    exact H
  · replace H := dz_if c1 H
    by_cases c2 : dz_c a1 = 1
    · replace H := dz_it c2 H
      refine wq_ts (x' := dz_c a1) (tt := 49) rfl rfl (by rw [c2]; rfl) ?_
      refine wp_s (i := .aload_n 0) (n := 1) (pc' := 50) (st' := [.ref 114]) rfl rfl ?_
      refine wq_gi (idx := 167) (pc' := 53) rfl rfl ho_M rfl rfl ?_
      refine wq_ri rfl rfl ?_
      replace H := dz_sm H
      exact H
    · replace H := dz_if c2 H
      by_cases c3 : dz_c a1 = 2
      · replace H := dz_it c3 H
        refine wq_ts (x' := dz_c a1) (tt := 54) rfl rfl (by rw [c3]; rfl) ?_
        refine wp_s (i := .aload_n 0) (n := 1) (pc' := 55) (st' := [.ref 114]) rfl rfl ?_
        refine wq_gi (idx := 170) (pc' := 58) rfl rfl ho_M rfl rfl ?_
        refine wq_ri rfl rfl ?_
        replace H := dz_sm H
        exact H
      · replace H := dz_if c3 H
        by_cases c4 : dz_c a1 = 3
        · replace H := dz_it c4 H
          refine wq_ts (x' := dz_c a1) (tt := 59) rfl rfl (by rw [c4]; rfl) ?_
          refine wp_s (i := .aload_n 0) (n := 1) (pc' := 60) (st' := [.ref 114]) rfl rfl ?_
          refine wq_gi (idx := 173) (pc' := 63) rfl rfl ho_M rfl rfl ?_
          refine wq_ri rfl rfl ?_
          replace H := dz_sm H
          exact H
        · replace H := dz_if c4 H
          by_cases c5 : dz_c a1 = 4
          · replace H := dz_it c5 H
            refine wq_ts (x' := dz_c a1) (tt := 64) rfl rfl (by rw [c5]; rfl) ?_
            refine wp_s (i := .aload_n 0) (n := 1) (pc' := 65) (st' := [.ref 114]) rfl rfl ?_
            refine wq_gr (idx := 7) (a := 115) (pc' := 68) rfl rfl ho_M rfl rfl ?_
            refine wp_s (i := .bipush 73) (n := 2) (pc' := 70) (st' := [dz_I 73, .ref 115]) rfl rfl ?_
            refine wq_ia (j' := 73) (pc' := 71) rfl ha_M_0 dk_73 (by decide) (by decide) rfl ?_
            refine wq_ri rfl rfl ?_
            replace H := dz_sm H
            exact H
          · replace H := dz_if c5 H
            by_cases c6 : dz_c a1 = 5
            · replace H := dz_it c6 H
              refine wq_ts (x' := dz_c a1) (tt := 72) rfl rfl (by rw [c6]; rfl) ?_
              refine wp_s (i := .aload_n 0) (n := 1) (pc' := 73) (st' := [.ref 114]) rfl rfl ?_
              refine wq_gi (idx := 176) (pc' := 76) rfl rfl ho_M rfl rfl ?_
              refine wq_ri rfl rfl ?_
              replace H := dz_sm H
              exact H
            · replace H := dz_if c6 H
              by_cases c7 : dz_c a1 = 6
              · replace H := dz_it c7 H
                refine wq_ts (x' := dz_c a1) (tt := 77) rfl rfl (by rw [c7]; rfl) ?_
                refine wp_s (i := .aload_n 0) (n := 1) (pc' := 78) (st' := [.ref 114]) rfl rfl ?_
                refine wq_gi (idx := 179) (pc' := 81) rfl rfl ho_M rfl rfl ?_
                refine wq_ri rfl rfl ?_
                replace H := dz_sm H
                exact H
              · replace H := dz_if c7 H
                refine wq_ts (x' := dz_c a1) (tt := 82) rfl rfl (by unfold mm_sw; rw [if_pos (by omega)]; rfl) ?_
                refine wp_s (i := .iconst (-1)) (n := 1) (pc' := 83) (st' := [dz_I (-1)]) rfl rfl ?_
                refine wq_ri rfl rfl ?_
                replace H := dz_sm H
                exact H
-- 138
def jf_M_isGutter (a1 : Int) (Z : dz_Z) : Option (Bool) := some (decide (0 ≤ dz_c a1 ∧ dz_c a1 ≤ dz_c ((Z 114 2 0) - 1)))
set_option maxRecDepth 20000 in
theorem jw_M_isGutter {X : Option (List Int32)} {D : Nat} {Q : Option Value → mm_H → Prop} (a1 : Int) (Z : dz_Z) (H : dz_p (jf_M_isGutter a1 Z) (fun q => Q (some (dz_B q)) (hz_0 Z))) : mm_Wp X (D + 1) mm_r138 0 [some (.ref 114), some (dz_I a1)] [] (hz_0 Z) Q := by
  unfold jf_M_isGutter at H
  refine wp_s (i := .iload_n 1) (n := 1) (pc' := 1) (st' := [dz_I a1]) rfl rfl ?_
  refine wq_3 (i := .i2l) (v' := dz_J (dz_c a1)) (pc' := 2) rfl rfl (oq_i2l' rfl) rfl ?_
  refine wp_s (i := .lconst 0) (n := 1) (pc' := 3) (st' := [dz_J 0, dz_J (dz_c a1)]) rfl rfl ?_
  refine wp_s (i := .aload_n 0) (n := 1) (pc' := 4) (st' := [.ref 114, dz_J 0, dz_J (dz_c a1)]) rfl rfl ?_
  refine wq_gi (idx := 167) (pc' := 7) rfl rfl ho_M rfl rfl ?_
  refine wp_s (i := .iconst 1) (n := 1) (pc' := 8) (st' := [dz_I 1, dz_I (Z 114 2 0), dz_J 0, dz_J (dz_c a1)]) rfl rfl ?_
  refine wq_2 (i := .isub) (z := (Z 114 2 0) - 1) (pc' := 9) rfl rfl (op_sub _ _) rfl ?_
  refine wq_3 (i := .i2l) (v' := dz_J (dz_c ((Z 114 2 0) - 1))) (pc' := 10) rfl rfl (oq_i2l' rfl) rfl ?_
  refine wq_cs (Dq := D) (r' := mm_r120) (as0 := [dz_J (dz_c a1), dz_J 0, dz_J (dz_c ((Z 114 2 0) - 1))]) (rest := []) (ls' := [some (dz_J (dz_c a1)), none, some (dz_J 0), none, some (dz_J (dz_c ((Z 114 2 0) - 1))), none]) (pc' := 13) rfl rfl (by decide) rfl rfl rfl rfl rfl ?_
  refine jw_in (a' := dz_c a1) (b' := 0) (c' := dz_c ((Z 114 2 0) - 1)) (dz_lc _) (by decide) (dz_lc _) ?_
  show mm_Wp X (D + 1) mm_r138 13 [some (.ref 114), some (dz_I a1)] [dz_B (decide (0 ≤ dz_c a1 ∧ dz_c a1 ≤ dz_c ((Z 114 2 0) - 1)))] (hz_0 Z) Q
  refine wq_rb rfl rfl ?_
  replace H := dz_sm H
  exact H
-- 139
def jf_M_isSpout (a1 : Int) (Z : dz_Z) : Option (Bool) := some (decide (0 ≤ dz_c a1 ∧ dz_c a1 ≤ dz_c ((Z 114 3 0) - 1)))
set_option maxRecDepth 20000 in
theorem jw_M_isSpout {X : Option (List Int32)} {D : Nat} {Q : Option Value → mm_H → Prop} (a1 : Int) (Z : dz_Z) (H : dz_p (jf_M_isSpout a1 Z) (fun q => Q (some (dz_B q)) (hz_0 Z))) : mm_Wp X (D + 1) mm_r139 0 [some (.ref 114), some (dz_I a1)] [] (hz_0 Z) Q := by
  unfold jf_M_isSpout at H
  refine wp_s (i := .iload_n 1) (n := 1) (pc' := 1) (st' := [dz_I a1]) rfl rfl ?_
  refine wq_3 (i := .i2l) (v' := dz_J (dz_c a1)) (pc' := 2) rfl rfl (oq_i2l' rfl) rfl ?_
  refine wp_s (i := .lconst 0) (n := 1) (pc' := 3) (st' := [dz_J 0, dz_J (dz_c a1)]) rfl rfl ?_
  refine wp_s (i := .aload_n 0) (n := 1) (pc' := 4) (st' := [.ref 114, dz_J 0, dz_J (dz_c a1)]) rfl rfl ?_
  refine wq_gi (idx := 170) (pc' := 7) rfl rfl ho_M rfl rfl ?_
  refine wp_s (i := .iconst 1) (n := 1) (pc' := 8) (st' := [dz_I 1, dz_I (Z 114 3 0), dz_J 0, dz_J (dz_c a1)]) rfl rfl ?_
  refine wq_2 (i := .isub) (z := (Z 114 3 0) - 1) (pc' := 9) rfl rfl (op_sub _ _) rfl ?_
  refine wq_3 (i := .i2l) (v' := dz_J (dz_c ((Z 114 3 0) - 1))) (pc' := 10) rfl rfl (oq_i2l' rfl) rfl ?_
  refine wq_cs (Dq := D) (r' := mm_r120) (as0 := [dz_J (dz_c a1), dz_J 0, dz_J (dz_c ((Z 114 3 0) - 1))]) (rest := []) (ls' := [some (dz_J (dz_c a1)), none, some (dz_J 0), none, some (dz_J (dz_c ((Z 114 3 0) - 1))), none]) (pc' := 13) rfl rfl (by decide) rfl rfl rfl rfl rfl ?_
  refine jw_in (a' := dz_c a1) (b' := 0) (c' := dz_c ((Z 114 3 0) - 1)) (dz_lc _) (by decide) (dz_lc _) ?_
  show mm_Wp X (D + 1) mm_r139 13 [some (.ref 114), some (dz_I a1)] [dz_B (decide (0 ≤ dz_c a1 ∧ dz_c a1 ≤ dz_c ((Z 114 3 0) - 1)))] (hz_0 Z) Q
  refine wq_rb rfl rfl ?_
  replace H := dz_sm H
  exact H
-- 140
def jf_M_isShower (a1 : Int) (Z : dz_Z) : Option (Bool) := some (decide (0 ≤ dz_c a1 ∧ dz_c a1 ≤ dz_c ((Z 114 4 0) - 1)))
set_option maxRecDepth 20000 in
theorem jw_M_isShower {X : Option (List Int32)} {D : Nat} {Q : Option Value → mm_H → Prop} (a1 : Int) (Z : dz_Z) (H : dz_p (jf_M_isShower a1 Z) (fun q => Q (some (dz_B q)) (hz_0 Z))) : mm_Wp X (D + 1) mm_r140 0 [some (.ref 114), some (dz_I a1)] [] (hz_0 Z) Q := by
  unfold jf_M_isShower at H
  refine wp_s (i := .iload_n 1) (n := 1) (pc' := 1) (st' := [dz_I a1]) rfl rfl ?_
  refine wq_3 (i := .i2l) (v' := dz_J (dz_c a1)) (pc' := 2) rfl rfl (oq_i2l' rfl) rfl ?_
  refine wp_s (i := .lconst 0) (n := 1) (pc' := 3) (st' := [dz_J 0, dz_J (dz_c a1)]) rfl rfl ?_
  refine wp_s (i := .aload_n 0) (n := 1) (pc' := 4) (st' := [.ref 114, dz_J 0, dz_J (dz_c a1)]) rfl rfl ?_
  refine wq_gi (idx := 173) (pc' := 7) rfl rfl ho_M rfl rfl ?_
  refine wp_s (i := .iconst 1) (n := 1) (pc' := 8) (st' := [dz_I 1, dz_I (Z 114 4 0), dz_J 0, dz_J (dz_c a1)]) rfl rfl ?_
  refine wq_2 (i := .isub) (z := (Z 114 4 0) - 1) (pc' := 9) rfl rfl (op_sub _ _) rfl ?_
  refine wq_3 (i := .i2l) (v' := dz_J (dz_c ((Z 114 4 0) - 1))) (pc' := 10) rfl rfl (oq_i2l' rfl) rfl ?_
  refine wq_cs (Dq := D) (r' := mm_r120) (as0 := [dz_J (dz_c a1), dz_J 0, dz_J (dz_c ((Z 114 4 0) - 1))]) (rest := []) (ls' := [some (dz_J (dz_c a1)), none, some (dz_J 0), none, some (dz_J (dz_c ((Z 114 4 0) - 1))), none]) (pc' := 13) rfl rfl (by decide) rfl rfl rfl rfl rfl ?_
  refine jw_in (a' := dz_c a1) (b' := 0) (c' := dz_c ((Z 114 4 0) - 1)) (dz_lc _) (by decide) (dz_lc _) ?_
  show mm_Wp X (D + 1) mm_r140 13 [some (.ref 114), some (dz_I a1)] [dz_B (decide (0 ≤ dz_c a1 ∧ dz_c a1 ≤ dz_c ((Z 114 4 0) - 1)))] (hz_0 Z) Q
  refine wq_rb rfl rfl ?_
  replace H := dz_sm H
  exact H
-- 141
def jf_M_gutter (a1 : Int) (a2 : Int) (Z : dz_Z) : Option (Int) := Option.bind (jf_M_isGutter a1 Z) fun q1 => if q1 = true then (if ¬(0 ≤ dz_c a2 ∧ dz_c a2 ≤ 1) then (if dz_c a2 ≠ 2 then (if dz_c a2 ≠ 3 then (some (-1)) else (if 0 ≤ dz_c (5 + a1) ∧ dz_c (5 + a1) < 700 then some (Z 114 0 (dz_c (5 + a1))) else none)) else (if 0 ≤ dz_c (0 + a1) ∧ dz_c (0 + a1) < 700 then some (Z 114 0 (dz_c (0 + a1))) else none)) else (if 0 ≤ dz_c ((2 * a1) + a2) ∧ dz_c ((2 * a1) + a2) < 10 then some (Z 114 8 (dz_c ((2 * a1) + a2))) else none)) else (some (-1))
set_option maxRecDepth 20000 in
theorem jw_M_gutter {X : Option (List Int32)} {D : Nat} {Q : Option Value → mm_H → Prop} (a1 : Int) (a2 : Int) (Z : dz_Z) (H : dz_p (jf_M_gutter a1 a2 Z) (fun q => Q (some (dz_I q)) (hz_0 Z))) : mm_Wp X (D + 2) mm_r141 0 [some (.ref 114), some (dz_I a1), some (dz_I a2)] [] (hz_0 Z) Q := by
  unfold jf_M_gutter at H
  refine wp_s (i := .aload_n 0) (n := 1) (pc' := 1) (st' := [.ref 114]) rfl rfl ?_
  refine wp_s (i := .iload_n 1) (n := 1) (pc' := 2) (st' := [dz_I a1, .ref 114]) rfl rfl ?_
  refine wq_cv (Dq := (D + 1)) (r' := mm_r138) (as0 := [dz_I a1]) (rest := []) (ls' := [some (.ref 114), some (dz_I a1)]) (pc' := 5) rfl rfl rfl rfl ho_M rfl rfl rfl ?_
  refine jw_M_isGutter (X := X) (D := D + 0) a1 Z (dz_pm (dz_bi H) (fun q1 H => ?_))
  show mm_Wp X (D + 2) mm_r141 5 [some (.ref 114), some (dz_I a1), some (dz_I a2)] [dz_B q1] (hz_0 Z) Q
  refine wq_if (p := q1 = true) (tt := 10) (pc' := 8) rfl rfl (cb_ne) rfl (fun c2 => ?_) (fun c2 => ?_)
  · replace H := dz_it c2 H
    refine wp_s (i := .iload_n 2) (n := 1) (pc' := 11) (st' := [dz_I a2]) rfl rfl ?_
    refine wq_3 (i := .i2l) (v' := dz_J (dz_c a2)) (pc' := 12) rfl rfl (oq_i2l' rfl) rfl ?_
    refine wp_s (i := .lconst 0) (n := 1) (pc' := 13) (st' := [dz_J 0, dz_J (dz_c a2)]) rfl rfl ?_
    refine wp_s (i := .lconst 1) (n := 1) (pc' := 14) (st' := [dz_J 1, dz_J 0, dz_J (dz_c a2)]) rfl rfl ?_
    refine wq_cs (Dq := (D + 1)) (r' := mm_r120) (as0 := [dz_J (dz_c a2), dz_J 0, dz_J 1]) (rest := []) (ls' := [some (dz_J (dz_c a2)), none, some (dz_J 0), none, some (dz_J 1), none]) (pc' := 17) rfl rfl (by decide) rfl rfl rfl rfl rfl ?_
    refine jw_in (a' := dz_c a2) (b' := 0) (c' := 1) (dz_lc _) (by decide) (by decide) ?_
    show mm_Wp X (D + 2) mm_r141 17 [some (.ref 114), some (dz_I a1), some (dz_I a2)] [dz_B (decide (0 ≤ dz_c a2 ∧ dz_c a2 ≤ 1))] (hz_0 Z) Q
    refine wq_if (p := ¬(0 ≤ dz_c a2 ∧ dz_c a2 ≤ 1)) (tt := 33) (pc' := 20) rfl rfl (cd_eq) rfl (fun c3 => ?_) (fun c3 => ?_)
    · replace H := dz_it c3 H
      refine wp_s (i := .iload_n 2) (n := 1) (pc' := 34) (st' := [dz_I a2]) rfl rfl ?_
      refine wp_s (i := .iconst 2) (n := 1) (pc' := 35) (st' := [dz_I 2, dz_I a2]) rfl rfl ?_
      refine wq_ic (p := dz_c a2 ≠ 2) (tt := 49) (pc' := 38) rfl rfl (cq_ne rfl dk_2) rfl (fun c4 => ?_) (fun c4 => ?_)
      · replace H := dz_it c4 H
        refine wp_s (i := .iload_n 2) (n := 1) (pc' := 50) (st' := [dz_I a2]) rfl rfl ?_
        refine wp_s (i := .iconst 3) (n := 1) (pc' := 51) (st' := [dz_I 3, dz_I a2]) rfl rfl ?_
        refine wq_ic (p := dz_c a2 ≠ 3) (tt := 65) (pc' := 54) rfl rfl (cq_ne rfl dk_3) rfl (fun c5 => ?_) (fun c5 => ?_)
        · replace H := dz_it c5 H
          refine wp_s (i := .iconst (-1)) (n := 1) (pc' := 66) (st' := [dz_I (-1)]) rfl rfl ?_
          refine wq_ri rfl rfl ?_
          replace H := dz_sm H
          exact H
        · replace H := dz_if c5 H
          refine wp_s (i := .aload_n 0) (n := 1) (pc' := 55) (st' := [.ref 114]) rfl rfl ?_
          refine wq_gr (idx := 7) (a := 115) (pc' := 58) rfl rfl ho_M rfl rfl ?_
          refine wp_s (i := .iconst 5) (n := 1) (pc' := 59) (st' := [dz_I 5, .ref 115]) rfl rfl ?_
          refine wp_s (i := .iload_n 1) (n := 1) (pc' := 60) (st' := [dz_I a1, dz_I 5, .ref 115]) rfl rfl ?_
          refine wq_2 (i := .iadd) (z := 5 + a1) (pc' := 61) rfl rfl (op_add _ _) rfl ?_
          obtain ⟨k6, H⟩ := dz_ck H
          refine wq_ia (j' := dz_c (5 + a1)) (pc' := 62) rfl ha_M_0 rfl k6.1 k6.2 rfl ?_
          refine wp_s (i := .goto 4) (n := 3) (pc' := 66) (st' := [dz_I (Z 114 0 (dz_c (5 + a1)))]) rfl rfl ?_
          refine wq_ri rfl rfl ?_
          replace H := dz_sm H
          exact H
      · replace H := dz_if c4 H
        refine wp_s (i := .aload_n 0) (n := 1) (pc' := 39) (st' := [.ref 114]) rfl rfl ?_
        refine wq_gr (idx := 7) (a := 115) (pc' := 42) rfl rfl ho_M rfl rfl ?_
        refine wp_s (i := .iconst 0) (n := 1) (pc' := 43) (st' := [dz_I 0, .ref 115]) rfl rfl ?_
        refine wp_s (i := .iload_n 1) (n := 1) (pc' := 44) (st' := [dz_I a1, dz_I 0, .ref 115]) rfl rfl ?_
        refine wq_2 (i := .iadd) (z := 0 + a1) (pc' := 45) rfl rfl (op_add _ _) rfl ?_
        obtain ⟨k7, H⟩ := dz_ck H
        refine wq_ia (j' := dz_c (0 + a1)) (pc' := 46) rfl ha_M_0 rfl k7.1 k7.2 rfl ?_
        refine wp_s (i := .goto 20) (n := 3) (pc' := 66) (st' := [dz_I (Z 114 0 (dz_c (0 + a1)))]) rfl rfl ?_
        refine wq_ri rfl rfl ?_
        replace H := dz_sm H
        exact H
    · replace H := dz_if c3 H
      refine wp_s (i := .aload_n 0) (n := 1) (pc' := 21) (st' := [.ref 114]) rfl rfl ?_
      refine wq_gr (idx := 16) (a := 117) (pc' := 24) rfl rfl ho_M rfl rfl ?_
      refine wp_s (i := .iconst 2) (n := 1) (pc' := 25) (st' := [dz_I 2, .ref 117]) rfl rfl ?_
      refine wp_s (i := .iload_n 1) (n := 1) (pc' := 26) (st' := [dz_I a1, dz_I 2, .ref 117]) rfl rfl ?_
      refine wq_2 (i := .imul) (z := 2 * a1) (pc' := 27) rfl rfl (op_mul _ _) rfl ?_
      refine wp_s (i := .iload_n 2) (n := 1) (pc' := 28) (st' := [dz_I a2, dz_I (2 * a1), .ref 117]) rfl rfl ?_
      refine wq_2 (i := .iadd) (z := (2 * a1) + a2) (pc' := 29) rfl rfl (op_add _ _) rfl ?_
      obtain ⟨k8, H⟩ := dz_ck H
      refine wq_ia (j' := dz_c ((2 * a1) + a2)) (pc' := 30) rfl ha_M_8 rfl k8.1 k8.2 rfl ?_
      refine wp_s (i := .goto 36) (n := 3) (pc' := 66) (st' := [dz_I (Z 114 8 (dz_c ((2 * a1) + a2)))]) rfl rfl ?_
      refine wq_ri rfl rfl ?_
      replace H := dz_sm H
      exact H
  · replace H := dz_if c2 H
    refine wp_s (i := .iconst (-1)) (n := 1) (pc' := 9) (st' := [dz_I (-1)]) rfl rfl ?_
    refine wq_ri rfl rfl ?_
    replace H := dz_sm H
    exact H
-- 142
def jf_M_spout (a1 : Int) (a2 : Int) (Z : dz_Z) : Option (Int) := Option.bind (jf_M_isSpout a1 Z) fun q1 => if q1 = true then (if dz_c a2 = 0 then (if 0 ≤ dz_c a1 ∧ dz_c a1 < 8 then some (Z 114 9 (dz_c a1)) else none) else (if dz_c a2 = 1 then (if 0 ≤ dz_c (10 + a1) ∧ dz_c (10 + a1) < 700 then some (Z 114 0 (dz_c (10 + a1))) else none) else (if dz_c a2 = 2 then (if 0 ≤ dz_c (18 + a1) ∧ dz_c (18 + a1) < 700 then some (Z 114 0 (dz_c (18 + a1))) else none) else (if dz_c a2 = 3 then (if 0 ≤ dz_c (26 + a1) ∧ dz_c (26 + a1) < 700 then some (Z 114 0 (dz_c (26 + a1))) else none) else (if dz_c a2 = 4 then (if 0 ≤ dz_c (86 + a1) ∧ dz_c (86 + a1) < 700 then some (Z 114 0 (dz_c (86 + a1))) else none) else (if dz_c a2 = 5 then (if 0 ≤ dz_c (102 + a1) ∧ dz_c (102 + a1) < 700 then some (Z 114 0 (dz_c (102 + a1))) else none) else (if dz_c a2 = 6 then (if 0 ≤ dz_c (118 + a1) ∧ dz_c (118 + a1) < 700 then some (Z 114 0 (dz_c (118 + a1))) else none) else (if dz_c a2 = 7 then (if 0 ≤ dz_c (110 + a1) ∧ dz_c (110 + a1) < 700 then some (Z 114 0 (dz_c (110 + a1))) else none) else (some (-1)))))))))) else (some (-1))
set_option maxRecDepth 20000 in
theorem jw_M_spout {X : Option (List Int32)} {D : Nat} {Q : Option Value → mm_H → Prop} (a1 : Int) (a2 : Int) (Z : dz_Z) (H : dz_p (jf_M_spout a1 a2 Z) (fun q => Q (some (dz_I q)) (hz_0 Z))) : mm_Wp X (D + 2) mm_r142 0 [some (.ref 114), some (dz_I a1), some (dz_I a2)] [] (hz_0 Z) Q := by
  unfold jf_M_spout at H
  refine wp_s (i := .aload_n 0) (n := 1) (pc' := 1) (st' := [.ref 114]) rfl rfl ?_
  refine wp_s (i := .iload_n 1) (n := 1) (pc' := 2) (st' := [dz_I a1, .ref 114]) rfl rfl ?_
  refine wq_cv (Dq := (D + 1)) (r' := mm_r139) (as0 := [dz_I a1]) (rest := []) (ls' := [some (.ref 114), some (dz_I a1)]) (pc' := 5) rfl rfl rfl rfl ho_M rfl rfl rfl ?_
  refine jw_M_isSpout (X := X) (D := D + 0) a1 Z (dz_pm (dz_bi H) (fun q1 H => ?_))
  show mm_Wp X (D + 2) mm_r142 5 [some (.ref 114), some (dz_I a1), some (dz_I a2)] [dz_B q1] (hz_0 Z) Q
  refine wq_if (p := q1 = true) (tt := 10) (pc' := 8) rfl rfl (cb_ne) rfl (fun c2 => ?_) (fun c2 => ?_)
  · replace H := dz_it c2 H
    refine wp_s (i := .iload_n 2) (n := 1) (pc' := 11) (st' := [dz_I a2]) rfl rfl ?_
    by_cases c3 : dz_c a2 = 0
    · replace H := dz_it c3 H
      refine wq_ts (x' := dz_c a2) (tt := 56) rfl rfl (by rw [c3]; rfl) ?_
      refine wp_s (i := .aload_n 0) (n := 1) (pc' := 57) (st' := [.ref 114]) rfl rfl ?_
      refine wq_gr (idx := 19) (a := 118) (pc' := 60) rfl rfl ho_M rfl rfl ?_
      refine wp_s (i := .iload_n 1) (n := 1) (pc' := 61) (st' := [dz_I a1, .ref 118]) rfl rfl ?_
      obtain ⟨k4, H⟩ := dz_ck H
      refine wq_ia (j' := dz_c a1) (pc' := 62) rfl ha_M_9 rfl k4.1 k4.2 rfl ?_
      refine wq_ri rfl rfl ?_
      replace H := dz_sm H
      exact H
    · replace H := dz_if c3 H
      by_cases c5 : dz_c a2 = 1
      · replace H := dz_it c5 H
        refine wq_ts (x' := dz_c a2) (tt := 63) rfl rfl (by rw [c5]; rfl) ?_
        refine wp_s (i := .aload_n 0) (n := 1) (pc' := 64) (st' := [.ref 114]) rfl rfl ?_
        refine wq_gr (idx := 7) (a := 115) (pc' := 67) rfl rfl ho_M rfl rfl ?_
        refine wp_s (i := .bipush 10) (n := 2) (pc' := 69) (st' := [dz_I 10, .ref 115]) rfl rfl ?_
        refine wp_s (i := .iload_n 1) (n := 1) (pc' := 70) (st' := [dz_I a1, dz_I 10, .ref 115]) rfl rfl ?_
        refine wq_2 (i := .iadd) (z := 10 + a1) (pc' := 71) rfl rfl (op_add _ _) rfl ?_
        obtain ⟨k6, H⟩ := dz_ck H
        refine wq_ia (j' := dz_c (10 + a1)) (pc' := 72) rfl ha_M_0 rfl k6.1 k6.2 rfl ?_
        refine wq_ri rfl rfl ?_
        replace H := dz_sm H
        exact H
      · replace H := dz_if c5 H
        by_cases c7 : dz_c a2 = 2
        · replace H := dz_it c7 H
          refine wq_ts (x' := dz_c a2) (tt := 73) rfl rfl (by rw [c7]; rfl) ?_
          refine wp_s (i := .aload_n 0) (n := 1) (pc' := 74) (st' := [.ref 114]) rfl rfl ?_
          refine wq_gr (idx := 7) (a := 115) (pc' := 77) rfl rfl ho_M rfl rfl ?_
          refine wp_s (i := .bipush 18) (n := 2) (pc' := 79) (st' := [dz_I 18, .ref 115]) rfl rfl ?_
          refine wp_s (i := .iload_n 1) (n := 1) (pc' := 80) (st' := [dz_I a1, dz_I 18, .ref 115]) rfl rfl ?_
          refine wq_2 (i := .iadd) (z := 18 + a1) (pc' := 81) rfl rfl (op_add _ _) rfl ?_
          obtain ⟨k8, H⟩ := dz_ck H
          refine wq_ia (j' := dz_c (18 + a1)) (pc' := 82) rfl ha_M_0 rfl k8.1 k8.2 rfl ?_
          refine wq_ri rfl rfl ?_
          replace H := dz_sm H
          exact H
        · replace H := dz_if c7 H
          by_cases c9 : dz_c a2 = 3
          · replace H := dz_it c9 H
            refine wq_ts (x' := dz_c a2) (tt := 83) rfl rfl (by rw [c9]; rfl) ?_
            refine wp_s (i := .aload_n 0) (n := 1) (pc' := 84) (st' := [.ref 114]) rfl rfl ?_
            refine wq_gr (idx := 7) (a := 115) (pc' := 87) rfl rfl ho_M rfl rfl ?_
            refine wp_s (i := .bipush 26) (n := 2) (pc' := 89) (st' := [dz_I 26, .ref 115]) rfl rfl ?_
            refine wp_s (i := .iload_n 1) (n := 1) (pc' := 90) (st' := [dz_I a1, dz_I 26, .ref 115]) rfl rfl ?_
            refine wq_2 (i := .iadd) (z := 26 + a1) (pc' := 91) rfl rfl (op_add _ _) rfl ?_
            obtain ⟨k10, H⟩ := dz_ck H
            refine wq_ia (j' := dz_c (26 + a1)) (pc' := 92) rfl ha_M_0 rfl k10.1 k10.2 rfl ?_
            refine wq_ri rfl rfl ?_
            replace H := dz_sm H
            exact H
          · replace H := dz_if c9 H
            by_cases c11 : dz_c a2 = 4
            · replace H := dz_it c11 H
              refine wq_ts (x' := dz_c a2) (tt := 93) rfl rfl (by rw [c11]; rfl) ?_
              refine wp_s (i := .aload_n 0) (n := 1) (pc' := 94) (st' := [.ref 114]) rfl rfl ?_
              refine wq_gr (idx := 7) (a := 115) (pc' := 97) rfl rfl ho_M rfl rfl ?_
              refine wp_s (i := .bipush 86) (n := 2) (pc' := 99) (st' := [dz_I 86, .ref 115]) rfl rfl ?_
              refine wp_s (i := .iload_n 1) (n := 1) (pc' := 100) (st' := [dz_I a1, dz_I 86, .ref 115]) rfl rfl ?_
              refine wq_2 (i := .iadd) (z := 86 + a1) (pc' := 101) rfl rfl (op_add _ _) rfl ?_
              obtain ⟨k12, H⟩ := dz_ck H
              refine wq_ia (j' := dz_c (86 + a1)) (pc' := 102) rfl ha_M_0 rfl k12.1 k12.2 rfl ?_
              refine wq_ri rfl rfl ?_
              replace H := dz_sm H
              exact H
            · replace H := dz_if c11 H
              by_cases c13 : dz_c a2 = 5
              · replace H := dz_it c13 H
                refine wq_ts (x' := dz_c a2) (tt := 103) rfl rfl (by rw [c13]; rfl) ?_
                refine wp_s (i := .aload_n 0) (n := 1) (pc' := 104) (st' := [.ref 114]) rfl rfl ?_
                refine wq_gr (idx := 7) (a := 115) (pc' := 107) rfl rfl ho_M rfl rfl ?_
                refine wp_s (i := .bipush 102) (n := 2) (pc' := 109) (st' := [dz_I 102, .ref 115]) rfl rfl ?_
                refine wp_s (i := .iload_n 1) (n := 1) (pc' := 110) (st' := [dz_I a1, dz_I 102, .ref 115]) rfl rfl ?_
                refine wq_2 (i := .iadd) (z := 102 + a1) (pc' := 111) rfl rfl (op_add _ _) rfl ?_
                obtain ⟨k14, H⟩ := dz_ck H
                refine wq_ia (j' := dz_c (102 + a1)) (pc' := 112) rfl ha_M_0 rfl k14.1 k14.2 rfl ?_
                refine wq_ri rfl rfl ?_
                replace H := dz_sm H
                exact H
              · replace H := dz_if c13 H
                by_cases c15 : dz_c a2 = 6
                · replace H := dz_it c15 H
                  refine wq_ts (x' := dz_c a2) (tt := 113) rfl rfl (by rw [c15]; rfl) ?_
                  refine wp_s (i := .aload_n 0) (n := 1) (pc' := 114) (st' := [.ref 114]) rfl rfl ?_
                  refine wq_gr (idx := 7) (a := 115) (pc' := 117) rfl rfl ho_M rfl rfl ?_
                  refine wp_s (i := .bipush 118) (n := 2) (pc' := 119) (st' := [dz_I 118, .ref 115]) rfl rfl ?_
                  refine wp_s (i := .iload_n 1) (n := 1) (pc' := 120) (st' := [dz_I a1, dz_I 118, .ref 115]) rfl rfl ?_
                  refine wq_2 (i := .iadd) (z := 118 + a1) (pc' := 121) rfl rfl (op_add _ _) rfl ?_
                  obtain ⟨k16, H⟩ := dz_ck H
                  refine wq_ia (j' := dz_c (118 + a1)) (pc' := 122) rfl ha_M_0 rfl k16.1 k16.2 rfl ?_
                  refine wq_ri rfl rfl ?_
                  replace H := dz_sm H
                  exact H
                · replace H := dz_if c15 H
                  by_cases c17 : dz_c a2 = 7
                  · replace H := dz_it c17 H
                    refine wq_ts (x' := dz_c a2) (tt := 123) rfl rfl (by rw [c17]; rfl) ?_
                    refine wp_s (i := .aload_n 0) (n := 1) (pc' := 124) (st' := [.ref 114]) rfl rfl ?_
                    refine wq_gr (idx := 7) (a := 115) (pc' := 127) rfl rfl ho_M rfl rfl ?_
                    refine wp_s (i := .bipush 110) (n := 2) (pc' := 129) (st' := [dz_I 110, .ref 115]) rfl rfl ?_
                    refine wp_s (i := .iload_n 1) (n := 1) (pc' := 130) (st' := [dz_I a1, dz_I 110, .ref 115]) rfl rfl ?_
                    refine wq_2 (i := .iadd) (z := 110 + a1) (pc' := 131) rfl rfl (op_add _ _) rfl ?_
                    obtain ⟨k18, H⟩ := dz_ck H
                    refine wq_ia (j' := dz_c (110 + a1)) (pc' := 132) rfl ha_M_0 rfl k18.1 k18.2 rfl ?_
                    refine wq_ri rfl rfl ?_
                    replace H := dz_sm H
                    exact H
                  · replace H := dz_if c17 H
                    refine wq_ts (x' := dz_c a2) (tt := 133) rfl rfl (by unfold mm_sw; rw [if_pos (by omega)]; rfl) ?_
                    refine wp_s (i := .iconst (-1)) (n := 1) (pc' := 134) (st' := [dz_I (-1)]) rfl rfl ?_
                    refine wq_ri rfl rfl ?_
                    replace H := dz_sm H
                    exact H
  · replace H := dz_if c2 H
    refine wp_s (i := .iconst (-1)) (n := 1) (pc' := 9) (st' := [dz_I (-1)]) rfl rfl ?_
    refine wq_ri rfl rfl ?_
    replace H := dz_sm H
    exact H
end mg_25m10
section mg_25m11
-- 143
def jf_M_peg (a1 : Int) (a2 : Int) (Z : dz_Z) : Option (Int × dz_Z) := Option.bind (jf_M_isGutter a1 Z) fun q1 => if q1 = false then (some ((-1), Z)) else (if 0 ≤ dz_c a2 ∧ dz_c a2 ≤ 2 then (if 0 ≤ dz_c (0 + a1) ∧ dz_c (0 + a1) < 700 then dz_a (dz_u Z 114 0 (dz_c (0 + a1)) a2) fun Z5 => some (Z 114 0 (dz_c (0 + a1)), Z5) else none) else (some ((-1), Z)))
set_option maxRecDepth 20000 in
theorem jw_M_peg {X : Option (List Int32)} {D : Nat} {Q : Option Value → mm_H → Prop} (a1 : Int) (a2 : Int) (Z : dz_Z) (H : dz_p (jf_M_peg a1 a2 Z) (fun q => Q (some (dz_I q.1)) (hz_0 q.2))) : mm_Wp X (D + 2) mm_r143 0 [some (.ref 114), some (dz_I a1), some (dz_I a2), none] [] (hz_0 Z) Q := by
  unfold jf_M_peg at H
  refine wp_s (i := .aload_n 0) (n := 1) (pc' := 1) (st' := [.ref 114]) rfl rfl ?_
  refine wp_s (i := .iload_n 1) (n := 1) (pc' := 2) (st' := [dz_I a1, .ref 114]) rfl rfl ?_
  refine wq_cv (Dq := (D + 1)) (r' := mm_r138) (as0 := [dz_I a1]) (rest := []) (ls' := [some (.ref 114), some (dz_I a1)]) (pc' := 5) rfl rfl rfl rfl ho_M rfl rfl rfl ?_
  refine jw_M_isGutter (X := X) (D := D + 0) a1 Z (dz_pm (dz_bi H) (fun q1 H => ?_))
  show mm_Wp X (D + 2) mm_r143 5 [some (.ref 114), some (dz_I a1), some (dz_I a2), none] [dz_B q1] (hz_0 Z) Q
  refine wq_if (p := q1 = false) (tt := 20) (pc' := 8) rfl rfl (cb_eq) rfl (fun c2 => ?_) (fun c2 => ?_)
  · replace H := dz_it c2 H
    refine wp_s (i := .iconst (-1)) (n := 1) (pc' := 21) (st' := [dz_I (-1)]) rfl rfl ?_
    refine wq_ri rfl rfl ?_
    replace H := dz_sm H
    exact H
  · replace H := dz_if c2 H
    refine wp_s (i := .iload_n 2) (n := 1) (pc' := 9) (st' := [dz_I a2]) rfl rfl ?_
    refine wq_3 (i := .i2l) (v' := dz_J (dz_c a2)) (pc' := 10) rfl rfl (oq_i2l' rfl) rfl ?_
    refine wp_s (i := .lconst 0) (n := 1) (pc' := 11) (st' := [dz_J 0, dz_J (dz_c a2)]) rfl rfl ?_
    refine wp_s (i := .ldc2_w 198) (n := 3) (pc' := 14) (st' := [dz_J 2, dz_J 0, dz_J (dz_c a2)]) rfl rfl ?_
    refine wq_cs (Dq := (D + 1)) (r' := mm_r120) (as0 := [dz_J (dz_c a2), dz_J 0, dz_J 2]) (rest := []) (ls' := [some (dz_J (dz_c a2)), none, some (dz_J 0), none, some (dz_J 2), none]) (pc' := 17) rfl rfl (by decide) rfl rfl rfl rfl rfl ?_
    refine jw_in (a' := dz_c a2) (b' := 0) (c' := 2) (dz_lc _) (by decide) (by decide) ?_
    show mm_Wp X (D + 2) mm_r143 17 [some (.ref 114), some (dz_I a1), some (dz_I a2), none] [dz_B (decide (0 ≤ dz_c a2 ∧ dz_c a2 ≤ 2))] (hz_0 Z) Q
    refine wq_if (p := 0 ≤ dz_c a2 ∧ dz_c a2 ≤ 2) (tt := 22) (pc' := 20) rfl rfl (cd_ne) rfl (fun c3 => ?_) (fun c3 => ?_)
    · replace H := dz_it c3 H
      refine wp_s (i := .aload_n 0) (n := 1) (pc' := 23) (st' := [.ref 114]) rfl rfl ?_
      refine wq_gr (idx := 7) (a := 115) (pc' := 26) rfl rfl ho_M rfl rfl ?_
      refine wp_s (i := .iconst 0) (n := 1) (pc' := 27) (st' := [dz_I 0, .ref 115]) rfl rfl ?_
      refine wp_s (i := .iload_n 1) (n := 1) (pc' := 28) (st' := [dz_I a1, dz_I 0, .ref 115]) rfl rfl ?_
      refine wq_2 (i := .iadd) (z := 0 + a1) (pc' := 29) rfl rfl (op_add _ _) rfl ?_
      obtain ⟨k4, H⟩ := dz_ck H
      refine wq_ia (j' := dz_c (0 + a1)) (pc' := 30) rfl ha_M_0 rfl k4.1 k4.2 rfl ?_
      refine wq_st (k := 3) (i := .istore_n 3) (n := 1) (ls' := [some (.ref 114), some (dz_I a1), some (dz_I a2), some (dz_I (Z 114 0 (dz_c (0 + a1))))]) (pc' := 31) rfl rfl rfl rfl rfl ?_
      refine wp_s (i := .aload_n 0) (n := 1) (pc' := 32) (st' := [.ref 114]) rfl rfl ?_
      refine wq_gr (idx := 7) (a := 115) (pc' := 35) rfl rfl ho_M rfl rfl ?_
      refine wp_s (i := .iconst 0) (n := 1) (pc' := 36) (st' := [dz_I 0, .ref 115]) rfl rfl ?_
      refine wp_s (i := .iload_n 1) (n := 1) (pc' := 37) (st' := [dz_I a1, dz_I 0, .ref 115]) rfl rfl ?_
      refine wq_2 (i := .iadd) (z := 0 + a1) (pc' := 38) rfl rfl (op_add _ _) rfl ?_
      refine wp_s (i := .iload_n 2) (n := 1) (pc' := 39) (st' := [dz_I a2, dz_I (0 + a1), .ref 115]) rfl rfl ?_
      refine wq_is (j' := dz_c (0 + a1)) (x := a2) (pc' := 40) rfl ha_M_0 rfl k4.1 k4.2 rfl (fun Z5 eZ5 => ?_)
      replace H := dz_le H Z5 eZ5
      clear eZ5
      refine wp_s (i := .iload_n 3) (n := 1) (pc' := 41) (st' := [dz_I (Z 114 0 (dz_c (0 + a1)))]) rfl rfl ?_
      refine wq_ri rfl rfl ?_
      replace H := dz_sm H
      exact H
    · replace H := dz_if c3 H
      refine wp_s (i := .iconst (-1)) (n := 1) (pc' := 21) (st' := [dz_I (-1)]) rfl rfl ?_
      refine wq_ri rfl rfl ?_
      replace H := dz_sm H
      exact H
-- 144
def jf_M_block (a1 : Int) (a2 : Int) (Z : dz_Z) : Option (Int × dz_Z) := Option.bind (jf_M_isGutter a1 Z) fun q1 => if q1 = true then (if 0 ≤ dz_c (5 + a1) ∧ dz_c (5 + a1) < 700 then if dz_c a2 = 0 then (dz_a (dz_u Z 114 0 (dz_c (5 + a1)) 0) fun Z5 => some (Z 114 0 (dz_c (5 + a1)), Z5)) else (dz_a (dz_u Z 114 0 (dz_c (5 + a1)) 1) fun Z6 => some (Z 114 0 (dz_c (5 + a1)), Z6)) else none) else (some ((-1), Z))
set_option maxRecDepth 20000 in
theorem jw_M_block {X : Option (List Int32)} {D : Nat} {Q : Option Value → mm_H → Prop} (a1 : Int) (a2 : Int) (Z : dz_Z) (H : dz_p (jf_M_block a1 a2 Z) (fun q => Q (some (dz_I q.1)) (hz_0 q.2))) : mm_Wp X (D + 2) mm_r144 0 [some (.ref 114), some (dz_I a1), some (dz_I a2), none] [] (hz_0 Z) Q := by
  unfold jf_M_block at H
  refine wp_s (i := .aload_n 0) (n := 1) (pc' := 1) (st' := [.ref 114]) rfl rfl ?_
  refine wp_s (i := .iload_n 1) (n := 1) (pc' := 2) (st' := [dz_I a1, .ref 114]) rfl rfl ?_
  refine wq_cv (Dq := (D + 1)) (r' := mm_r138) (as0 := [dz_I a1]) (rest := []) (ls' := [some (.ref 114), some (dz_I a1)]) (pc' := 5) rfl rfl rfl rfl ho_M rfl rfl rfl ?_
  refine jw_M_isGutter (X := X) (D := D + 0) a1 Z (dz_pm (dz_bi H) (fun q1 H => ?_))
  show mm_Wp X (D + 2) mm_r144 5 [some (.ref 114), some (dz_I a1), some (dz_I a2), none] [dz_B q1] (hz_0 Z) Q
  refine wq_if (p := q1 = true) (tt := 10) (pc' := 8) rfl rfl (cb_ne) rfl (fun c2 => ?_) (fun c2 => ?_)
  · replace H := dz_it c2 H
    refine wp_s (i := .aload_n 0) (n := 1) (pc' := 11) (st' := [.ref 114]) rfl rfl ?_
    refine wq_gr (idx := 7) (a := 115) (pc' := 14) rfl rfl ho_M rfl rfl ?_
    refine wp_s (i := .iconst 5) (n := 1) (pc' := 15) (st' := [dz_I 5, .ref 115]) rfl rfl ?_
    refine wp_s (i := .iload_n 1) (n := 1) (pc' := 16) (st' := [dz_I a1, dz_I 5, .ref 115]) rfl rfl ?_
    refine wq_2 (i := .iadd) (z := 5 + a1) (pc' := 17) rfl rfl (op_add _ _) rfl ?_
    obtain ⟨k3, H⟩ := dz_ck H
    refine wq_ia (j' := dz_c (5 + a1)) (pc' := 18) rfl ha_M_0 rfl k3.1 k3.2 rfl ?_
    refine wq_st (k := 3) (i := .istore_n 3) (n := 1) (ls' := [some (.ref 114), some (dz_I a1), some (dz_I a2), some (dz_I (Z 114 0 (dz_c (5 + a1))))]) (pc' := 19) rfl rfl rfl rfl rfl ?_
    refine wp_s (i := .aload_n 0) (n := 1) (pc' := 20) (st' := [.ref 114]) rfl rfl ?_
    refine wq_gr (idx := 7) (a := 115) (pc' := 23) rfl rfl ho_M rfl rfl ?_
    refine wp_s (i := .iconst 5) (n := 1) (pc' := 24) (st' := [dz_I 5, .ref 115]) rfl rfl ?_
    refine wp_s (i := .iload_n 1) (n := 1) (pc' := 25) (st' := [dz_I a1, dz_I 5, .ref 115]) rfl rfl ?_
    refine wq_2 (i := .iadd) (z := 5 + a1) (pc' := 26) rfl rfl (op_add _ _) rfl ?_
    refine wp_s (i := .iload_n 2) (n := 1) (pc' := 27) (st' := [dz_I a2, dz_I (5 + a1), .ref 115]) rfl rfl ?_
    refine wq_if (p := dz_c a2 = 0) (tt := 34) (pc' := 30) rfl rfl (cz_eq rfl) rfl (fun c4 => ?_) (fun c4 => ?_)
    · replace H := dz_it c4 H
      refine wp_s (i := .iconst 0) (n := 1) (pc' := 35) (st' := [dz_I 0, dz_I (5 + a1), .ref 115]) rfl rfl ?_
      refine wq_is (j' := dz_c (5 + a1)) (x := 0) (pc' := 36) rfl ha_M_0 rfl k3.1 k3.2 rfl (fun Z5 eZ5 => ?_)
      replace H := dz_le H Z5 eZ5
      clear eZ5
      refine wp_s (i := .iload_n 3) (n := 1) (pc' := 37) (st' := [dz_I (Z 114 0 (dz_c (5 + a1)))]) rfl rfl ?_
      refine wq_ri rfl rfl ?_
      replace H := dz_sm H
      exact H
    · replace H := dz_if c4 H
      refine wp_s (i := .iconst 1) (n := 1) (pc' := 31) (st' := [dz_I 1, dz_I (5 + a1), .ref 115]) rfl rfl ?_
      refine wp_s (i := .goto 4) (n := 3) (pc' := 35) (st' := [dz_I 1, dz_I (5 + a1), .ref 115]) rfl rfl ?_
      refine wq_is (j' := dz_c (5 + a1)) (x := 1) (pc' := 36) rfl ha_M_0 rfl k3.1 k3.2 rfl (fun Z6 eZ6 => ?_)
      replace H := dz_le H Z6 eZ6
      clear eZ6
      refine wp_s (i := .iload_n 3) (n := 1) (pc' := 37) (st' := [dz_I (Z 114 0 (dz_c (5 + a1)))]) rfl rfl ?_
      refine wq_ri rfl rfl ?_
      replace H := dz_sm H
      exact H
  · replace H := dz_if c2 H
    refine wp_s (i := .iconst (-1)) (n := 1) (pc' := 9) (st' := [dz_I (-1)]) rfl rfl ?_
    refine wq_ri rfl rfl ?_
    replace H := dz_sm H
    exact H
-- 145
def jf_M_cup (a1 : Int) (a2 : Int) (Z : dz_Z) : Option (Int × dz_Z) := Option.bind (jf_M_isSpout a1 Z) fun q1 => if q1 = false then (some ((-1), Z)) else (if dz_c a2 = 0 then (if 0 ≤ dz_c (10 + a1) ∧ dz_c (10 + a1) < 700 then dz_a (dz_u Z 114 0 (dz_c (10 + a1)) a2) fun Z5 => if 0 ≤ dz_c (18 + a1) ∧ dz_c (18 + a1) < 700 then dz_a (dz_u Z5 114 0 (dz_c (18 + a1)) 0) fun Z7 => if 0 ≤ dz_c (26 + a1) ∧ dz_c (26 + a1) < 700 then dz_a (dz_u Z7 114 0 (dz_c (26 + a1)) (-4)) fun Z9 => if 0 ≤ dz_c (86 + a1) ∧ dz_c (86 + a1) < 700 then dz_a (dz_u Z9 114 0 136 ((Z9 114 0 136) + (Z9 114 0 (dz_c (86 + a1))))) fun Z11 => dz_a (dz_u Z11 114 0 (dz_c (86 + a1)) 0) fun Z12 => if 0 ≤ dz_c (94 + a1) ∧ dz_c (94 + a1) < 700 then dz_a (dz_u Z12 114 0 (dz_c (94 + a1)) 0) fun Z14 => some (Z 114 0 (dz_c (10 + a1)), Z14) else none else none else none else none else none) else (if dz_c a2 = 5 then (if 0 ≤ dz_c (10 + a1) ∧ dz_c (10 + a1) < 700 then dz_a (dz_u Z 114 0 (dz_c (10 + a1)) a2) fun Z17 => if 0 ≤ dz_c (18 + a1) ∧ dz_c (18 + a1) < 700 then dz_a (dz_u Z17 114 0 (dz_c (18 + a1)) 0) fun Z19 => if 0 ≤ dz_c (26 + a1) ∧ dz_c (26 + a1) < 700 then dz_a (dz_u Z19 114 0 (dz_c (26 + a1)) (-4)) fun Z21 => if 0 ≤ dz_c (86 + a1) ∧ dz_c (86 + a1) < 700 then dz_a (dz_u Z21 114 0 136 ((Z21 114 0 136) + (Z21 114 0 (dz_c (86 + a1))))) fun Z23 => dz_a (dz_u Z23 114 0 (dz_c (86 + a1)) 0) fun Z24 => if 0 ≤ dz_c (94 + a1) ∧ dz_c (94 + a1) < 700 then dz_a (dz_u Z24 114 0 (dz_c (94 + a1)) 0) fun Z26 => some (Z 114 0 (dz_c (10 + a1)), Z26) else none else none else none else none else none) else (some ((-1), Z))))
set_option maxRecDepth 20000 in
theorem jw_M_cup {X : Option (List Int32)} {D : Nat} {Q : Option Value → mm_H → Prop} (a1 : Int) (a2 : Int) (Z : dz_Z) (H : dz_p (jf_M_cup a1 a2 Z) (fun q => Q (some (dz_I q.1)) (hz_0 q.2))) : mm_Wp X (D + 2) mm_r145 0 [some (.ref 114), some (dz_I a1), some (dz_I a2), none] [] (hz_0 Z) Q := by
  unfold jf_M_cup at H
  refine wp_s (i := .aload_n 0) (n := 1) (pc' := 1) (st' := [.ref 114]) rfl rfl ?_
  refine wp_s (i := .iload_n 1) (n := 1) (pc' := 2) (st' := [dz_I a1, .ref 114]) rfl rfl ?_
  refine wq_cv (Dq := (D + 1)) (r' := mm_r139) (as0 := [dz_I a1]) (rest := []) (ls' := [some (.ref 114), some (dz_I a1)]) (pc' := 5) rfl rfl rfl rfl ho_M rfl rfl rfl ?_
  refine jw_M_isSpout (X := X) (D := D + 0) a1 Z (dz_pm (dz_bi H) (fun q1 H => ?_))
  show mm_Wp X (D + 2) mm_r145 5 [some (.ref 114), some (dz_I a1), some (dz_I a2), none] [dz_B q1] (hz_0 Z) Q
  refine wq_if (p := q1 = false) (tt := 17) (pc' := 8) rfl rfl (cb_eq) rfl (fun c2 => ?_) (fun c2 => ?_)
  · replace H := dz_it c2 H
    refine wp_s (i := .iconst (-1)) (n := 1) (pc' := 18) (st' := [dz_I (-1)]) rfl rfl ?_
    refine wq_ri rfl rfl ?_
    replace H := dz_sm H
    exact H
  · replace H := dz_if c2 H
    refine wp_s (i := .iload_n 2) (n := 1) (pc' := 9) (st' := [dz_I a2]) rfl rfl ?_
    refine wq_if (p := dz_c a2 = 0) (tt := 19) (pc' := 12) rfl rfl (cz_eq rfl) rfl (fun c3 => ?_) (fun c3 => ?_)
    · replace H := dz_it c3 H
      refine wp_s (i := .aload_n 0) (n := 1) (pc' := 20) (st' := [.ref 114]) rfl rfl ?_
      refine wq_gr (idx := 7) (a := 115) (pc' := 23) rfl rfl ho_M rfl rfl ?_
      refine wp_s (i := .bipush 10) (n := 2) (pc' := 25) (st' := [dz_I 10, .ref 115]) rfl rfl ?_
      refine wp_s (i := .iload_n 1) (n := 1) (pc' := 26) (st' := [dz_I a1, dz_I 10, .ref 115]) rfl rfl ?_
      refine wq_2 (i := .iadd) (z := 10 + a1) (pc' := 27) rfl rfl (op_add _ _) rfl ?_
      obtain ⟨k4, H⟩ := dz_ck H
      refine wq_ia (j' := dz_c (10 + a1)) (pc' := 28) rfl ha_M_0 rfl k4.1 k4.2 rfl ?_
      refine wq_st (k := 3) (i := .istore_n 3) (n := 1) (ls' := [some (.ref 114), some (dz_I a1), some (dz_I a2), some (dz_I (Z 114 0 (dz_c (10 + a1))))]) (pc' := 29) rfl rfl rfl rfl rfl ?_
      refine wp_s (i := .aload_n 0) (n := 1) (pc' := 30) (st' := [.ref 114]) rfl rfl ?_
      refine wq_gr (idx := 7) (a := 115) (pc' := 33) rfl rfl ho_M rfl rfl ?_
      refine wp_s (i := .bipush 10) (n := 2) (pc' := 35) (st' := [dz_I 10, .ref 115]) rfl rfl ?_
      refine wp_s (i := .iload_n 1) (n := 1) (pc' := 36) (st' := [dz_I a1, dz_I 10, .ref 115]) rfl rfl ?_
      refine wq_2 (i := .iadd) (z := 10 + a1) (pc' := 37) rfl rfl (op_add _ _) rfl ?_
      refine wp_s (i := .iload_n 2) (n := 1) (pc' := 38) (st' := [dz_I a2, dz_I (10 + a1), .ref 115]) rfl rfl ?_
      refine wq_is (j' := dz_c (10 + a1)) (x := a2) (pc' := 39) rfl ha_M_0 rfl k4.1 k4.2 rfl (fun Z5 eZ5 => ?_)
      replace H := dz_le H Z5 eZ5
      clear eZ5
      refine wp_s (i := .aload_n 0) (n := 1) (pc' := 40) (st' := [.ref 114]) rfl rfl ?_
      refine wq_gr (idx := 7) (a := 115) (pc' := 43) rfl rfl ho_M rfl rfl ?_
      refine wp_s (i := .bipush 18) (n := 2) (pc' := 45) (st' := [dz_I 18, .ref 115]) rfl rfl ?_
      refine wp_s (i := .iload_n 1) (n := 1) (pc' := 46) (st' := [dz_I a1, dz_I 18, .ref 115]) rfl rfl ?_
      refine wq_2 (i := .iadd) (z := 18 + a1) (pc' := 47) rfl rfl (op_add _ _) rfl ?_
      refine wp_s (i := .iconst 0) (n := 1) (pc' := 48) (st' := [dz_I 0, dz_I (18 + a1), .ref 115]) rfl rfl ?_
      obtain ⟨k6, H⟩ := dz_ck H
      refine wq_is (j' := dz_c (18 + a1)) (x := 0) (pc' := 49) rfl ha_M_0 rfl k6.1 k6.2 rfl (fun Z7 eZ7 => ?_)
      replace H := dz_le H Z7 eZ7
      clear eZ7
      refine wp_s (i := .aload_n 0) (n := 1) (pc' := 50) (st' := [.ref 114]) rfl rfl ?_
      refine wq_gr (idx := 7) (a := 115) (pc' := 53) rfl rfl ho_M rfl rfl ?_
      refine wp_s (i := .bipush 26) (n := 2) (pc' := 55) (st' := [dz_I 26, .ref 115]) rfl rfl ?_
      refine wp_s (i := .iload_n 1) (n := 1) (pc' := 56) (st' := [dz_I a1, dz_I 26, .ref 115]) rfl rfl ?_
      refine wq_2 (i := .iadd) (z := 26 + a1) (pc' := 57) rfl rfl (op_add _ _) rfl ?_
      refine wp_s (i := .bipush (-4)) (n := 2) (pc' := 59) (st' := [dz_I (-4), dz_I (26 + a1), .ref 115]) rfl rfl ?_
      obtain ⟨k8, H⟩ := dz_ck H
      refine wq_is (j' := dz_c (26 + a1)) (x := (-4)) (pc' := 60) rfl ha_M_0 rfl k8.1 k8.2 rfl (fun Z9 eZ9 => ?_)
      replace H := dz_le H Z9 eZ9
      clear eZ9
      refine wp_s (i := .aload_n 0) (n := 1) (pc' := 61) (st' := [.ref 114]) rfl rfl ?_
      refine wq_gr (idx := 7) (a := 115) (pc' := 64) rfl rfl ho_M rfl rfl ?_
      refine wp_s (i := .sipush 136) (n := 3) (pc' := 67) (st' := [dz_I 136, .ref 115]) rfl rfl ?_
      refine wp_s (i := .dup2) (n := 1) (pc' := 68) (st' := [dz_I 136, .ref 115, dz_I 136, .ref 115]) rfl rfl ?_
      refine wq_ia (j' := 136) (pc' := 69) rfl ha_M_0 dk_136 (by decide) (by decide) rfl ?_
      refine wp_s (i := .aload_n 0) (n := 1) (pc' := 70) (st' := [.ref 114, dz_I (Z9 114 0 136), dz_I 136, .ref 115]) rfl rfl ?_
      refine wq_gr (idx := 7) (a := 115) (pc' := 73) rfl rfl ho_M rfl rfl ?_
      refine wp_s (i := .bipush 86) (n := 2) (pc' := 75) (st' := [dz_I 86, .ref 115, dz_I (Z9 114 0 136), dz_I 136, .ref 115]) rfl rfl ?_
      refine wp_s (i := .iload_n 1) (n := 1) (pc' := 76) (st' := [dz_I a1, dz_I 86, .ref 115, dz_I (Z9 114 0 136), dz_I 136, .ref 115]) rfl rfl ?_
      refine wq_2 (i := .iadd) (z := 86 + a1) (pc' := 77) rfl rfl (op_add _ _) rfl ?_
      obtain ⟨k10, H⟩ := dz_ck H
      refine wq_ia (j' := dz_c (86 + a1)) (pc' := 78) rfl ha_M_0 rfl k10.1 k10.2 rfl ?_
      refine wq_2 (i := .iadd) (z := (Z9 114 0 136) + (Z9 114 0 (dz_c (86 + a1)))) (pc' := 79) rfl rfl (op_add _ _) rfl ?_
      refine wq_is (j' := 136) (x := (Z9 114 0 136) + (Z9 114 0 (dz_c (86 + a1)))) (pc' := 80) rfl ha_M_0 dk_136 (by decide) (by decide) rfl (fun Z11 eZ11 => ?_)
      replace H := dz_le H Z11 eZ11
      clear eZ11
      refine wp_s (i := .aload_n 0) (n := 1) (pc' := 81) (st' := [.ref 114]) rfl rfl ?_
      refine wq_gr (idx := 7) (a := 115) (pc' := 84) rfl rfl ho_M rfl rfl ?_
      refine wp_s (i := .bipush 86) (n := 2) (pc' := 86) (st' := [dz_I 86, .ref 115]) rfl rfl ?_
      refine wp_s (i := .iload_n 1) (n := 1) (pc' := 87) (st' := [dz_I a1, dz_I 86, .ref 115]) rfl rfl ?_
      refine wq_2 (i := .iadd) (z := 86 + a1) (pc' := 88) rfl rfl (op_add _ _) rfl ?_
      refine wp_s (i := .iconst 0) (n := 1) (pc' := 89) (st' := [dz_I 0, dz_I (86 + a1), .ref 115]) rfl rfl ?_
      refine wq_is (j' := dz_c (86 + a1)) (x := 0) (pc' := 90) rfl ha_M_0 rfl k10.1 k10.2 rfl (fun Z12 eZ12 => ?_)
      replace H := dz_le H Z12 eZ12
      clear eZ12
      refine wp_s (i := .aload_n 0) (n := 1) (pc' := 91) (st' := [.ref 114]) rfl rfl ?_
      refine wq_gr (idx := 7) (a := 115) (pc' := 94) rfl rfl ho_M rfl rfl ?_
      refine wp_s (i := .bipush 94) (n := 2) (pc' := 96) (st' := [dz_I 94, .ref 115]) rfl rfl ?_
      refine wp_s (i := .iload_n 1) (n := 1) (pc' := 97) (st' := [dz_I a1, dz_I 94, .ref 115]) rfl rfl ?_
      refine wq_2 (i := .iadd) (z := 94 + a1) (pc' := 98) rfl rfl (op_add _ _) rfl ?_
      refine wp_s (i := .iconst 0) (n := 1) (pc' := 99) (st' := [dz_I 0, dz_I (94 + a1), .ref 115]) rfl rfl ?_
      obtain ⟨k13, H⟩ := dz_ck H
      refine wq_is (j' := dz_c (94 + a1)) (x := 0) (pc' := 100) rfl ha_M_0 rfl k13.1 k13.2 rfl (fun Z14 eZ14 => ?_)
      replace H := dz_le H Z14 eZ14
      clear eZ14
      refine wp_s (i := .iload_n 3) (n := 1) (pc' := 101) (st' := [dz_I (Z 114 0 (dz_c (10 + a1)))]) rfl rfl ?_
      refine wq_ri rfl rfl ?_
      replace H := dz_sm H
      exact H
    · replace H := dz_if c3 H
      refine wp_s (i := .iload_n 2) (n := 1) (pc' := 13) (st' := [dz_I a2]) rfl rfl ?_
      refine wp_s (i := .iconst 5) (n := 1) (pc' := 14) (st' := [dz_I 5, dz_I a2]) rfl rfl ?_
      refine wq_ic (p := dz_c a2 = 5) (tt := 19) (pc' := 17) rfl rfl (cq_eq rfl dk_5) rfl (fun c15 => ?_) (fun c15 => ?_)
      · replace H := dz_it c15 H
        refine wp_s (i := .aload_n 0) (n := 1) (pc' := 20) (st' := [.ref 114]) rfl rfl ?_
        refine wq_gr (idx := 7) (a := 115) (pc' := 23) rfl rfl ho_M rfl rfl ?_
        refine wp_s (i := .bipush 10) (n := 2) (pc' := 25) (st' := [dz_I 10, .ref 115]) rfl rfl ?_
        refine wp_s (i := .iload_n 1) (n := 1) (pc' := 26) (st' := [dz_I a1, dz_I 10, .ref 115]) rfl rfl ?_
        refine wq_2 (i := .iadd) (z := 10 + a1) (pc' := 27) rfl rfl (op_add _ _) rfl ?_
        obtain ⟨k16, H⟩ := dz_ck H
        refine wq_ia (j' := dz_c (10 + a1)) (pc' := 28) rfl ha_M_0 rfl k16.1 k16.2 rfl ?_
        refine wq_st (k := 3) (i := .istore_n 3) (n := 1) (ls' := [some (.ref 114), some (dz_I a1), some (dz_I a2), some (dz_I (Z 114 0 (dz_c (10 + a1))))]) (pc' := 29) rfl rfl rfl rfl rfl ?_
        refine wp_s (i := .aload_n 0) (n := 1) (pc' := 30) (st' := [.ref 114]) rfl rfl ?_
        refine wq_gr (idx := 7) (a := 115) (pc' := 33) rfl rfl ho_M rfl rfl ?_
        refine wp_s (i := .bipush 10) (n := 2) (pc' := 35) (st' := [dz_I 10, .ref 115]) rfl rfl ?_
        refine wp_s (i := .iload_n 1) (n := 1) (pc' := 36) (st' := [dz_I a1, dz_I 10, .ref 115]) rfl rfl ?_
        refine wq_2 (i := .iadd) (z := 10 + a1) (pc' := 37) rfl rfl (op_add _ _) rfl ?_
        refine wp_s (i := .iload_n 2) (n := 1) (pc' := 38) (st' := [dz_I a2, dz_I (10 + a1), .ref 115]) rfl rfl ?_
        refine wq_is (j' := dz_c (10 + a1)) (x := a2) (pc' := 39) rfl ha_M_0 rfl k16.1 k16.2 rfl (fun Z17 eZ17 => ?_)
        replace H := dz_le H Z17 eZ17
        clear eZ17
        refine wp_s (i := .aload_n 0) (n := 1) (pc' := 40) (st' := [.ref 114]) rfl rfl ?_
        refine wq_gr (idx := 7) (a := 115) (pc' := 43) rfl rfl ho_M rfl rfl ?_
        refine wp_s (i := .bipush 18) (n := 2) (pc' := 45) (st' := [dz_I 18, .ref 115]) rfl rfl ?_
        refine wp_s (i := .iload_n 1) (n := 1) (pc' := 46) (st' := [dz_I a1, dz_I 18, .ref 115]) rfl rfl ?_
        refine wq_2 (i := .iadd) (z := 18 + a1) (pc' := 47) rfl rfl (op_add _ _) rfl ?_
        refine wp_s (i := .iconst 0) (n := 1) (pc' := 48) (st' := [dz_I 0, dz_I (18 + a1), .ref 115]) rfl rfl ?_
        obtain ⟨k18, H⟩ := dz_ck H
        refine wq_is (j' := dz_c (18 + a1)) (x := 0) (pc' := 49) rfl ha_M_0 rfl k18.1 k18.2 rfl (fun Z19 eZ19 => ?_)
        replace H := dz_le H Z19 eZ19
        clear eZ19
        refine wp_s (i := .aload_n 0) (n := 1) (pc' := 50) (st' := [.ref 114]) rfl rfl ?_
        refine wq_gr (idx := 7) (a := 115) (pc' := 53) rfl rfl ho_M rfl rfl ?_
        refine wp_s (i := .bipush 26) (n := 2) (pc' := 55) (st' := [dz_I 26, .ref 115]) rfl rfl ?_
        refine wp_s (i := .iload_n 1) (n := 1) (pc' := 56) (st' := [dz_I a1, dz_I 26, .ref 115]) rfl rfl ?_
        refine wq_2 (i := .iadd) (z := 26 + a1) (pc' := 57) rfl rfl (op_add _ _) rfl ?_
        refine wp_s (i := .bipush (-4)) (n := 2) (pc' := 59) (st' := [dz_I (-4), dz_I (26 + a1), .ref 115]) rfl rfl ?_
        obtain ⟨k20, H⟩ := dz_ck H
        refine wq_is (j' := dz_c (26 + a1)) (x := (-4)) (pc' := 60) rfl ha_M_0 rfl k20.1 k20.2 rfl (fun Z21 eZ21 => ?_)
        replace H := dz_le H Z21 eZ21
        clear eZ21
        refine wp_s (i := .aload_n 0) (n := 1) (pc' := 61) (st' := [.ref 114]) rfl rfl ?_
        refine wq_gr (idx := 7) (a := 115) (pc' := 64) rfl rfl ho_M rfl rfl ?_
        refine wp_s (i := .sipush 136) (n := 3) (pc' := 67) (st' := [dz_I 136, .ref 115]) rfl rfl ?_
        refine wp_s (i := .dup2) (n := 1) (pc' := 68) (st' := [dz_I 136, .ref 115, dz_I 136, .ref 115]) rfl rfl ?_
        refine wq_ia (j' := 136) (pc' := 69) rfl ha_M_0 dk_136 (by decide) (by decide) rfl ?_
        refine wp_s (i := .aload_n 0) (n := 1) (pc' := 70) (st' := [.ref 114, dz_I (Z21 114 0 136), dz_I 136, .ref 115]) rfl rfl ?_
        refine wq_gr (idx := 7) (a := 115) (pc' := 73) rfl rfl ho_M rfl rfl ?_
        refine wp_s (i := .bipush 86) (n := 2) (pc' := 75) (st' := [dz_I 86, .ref 115, dz_I (Z21 114 0 136), dz_I 136, .ref 115]) rfl rfl ?_
        refine wp_s (i := .iload_n 1) (n := 1) (pc' := 76) (st' := [dz_I a1, dz_I 86, .ref 115, dz_I (Z21 114 0 136), dz_I 136, .ref 115]) rfl rfl ?_
        refine wq_2 (i := .iadd) (z := 86 + a1) (pc' := 77) rfl rfl (op_add _ _) rfl ?_
        obtain ⟨k22, H⟩ := dz_ck H
        refine wq_ia (j' := dz_c (86 + a1)) (pc' := 78) rfl ha_M_0 rfl k22.1 k22.2 rfl ?_
        refine wq_2 (i := .iadd) (z := (Z21 114 0 136) + (Z21 114 0 (dz_c (86 + a1)))) (pc' := 79) rfl rfl (op_add _ _) rfl ?_
        refine wq_is (j' := 136) (x := (Z21 114 0 136) + (Z21 114 0 (dz_c (86 + a1)))) (pc' := 80) rfl ha_M_0 dk_136 (by decide) (by decide) rfl (fun Z23 eZ23 => ?_)
        replace H := dz_le H Z23 eZ23
        clear eZ23
        refine wp_s (i := .aload_n 0) (n := 1) (pc' := 81) (st' := [.ref 114]) rfl rfl ?_
        refine wq_gr (idx := 7) (a := 115) (pc' := 84) rfl rfl ho_M rfl rfl ?_
        refine wp_s (i := .bipush 86) (n := 2) (pc' := 86) (st' := [dz_I 86, .ref 115]) rfl rfl ?_
        refine wp_s (i := .iload_n 1) (n := 1) (pc' := 87) (st' := [dz_I a1, dz_I 86, .ref 115]) rfl rfl ?_
        refine wq_2 (i := .iadd) (z := 86 + a1) (pc' := 88) rfl rfl (op_add _ _) rfl ?_
        refine wp_s (i := .iconst 0) (n := 1) (pc' := 89) (st' := [dz_I 0, dz_I (86 + a1), .ref 115]) rfl rfl ?_
        refine wq_is (j' := dz_c (86 + a1)) (x := 0) (pc' := 90) rfl ha_M_0 rfl k22.1 k22.2 rfl (fun Z24 eZ24 => ?_)
        replace H := dz_le H Z24 eZ24
        clear eZ24
        refine wp_s (i := .aload_n 0) (n := 1) (pc' := 91) (st' := [.ref 114]) rfl rfl ?_
        refine wq_gr (idx := 7) (a := 115) (pc' := 94) rfl rfl ho_M rfl rfl ?_
        refine wp_s (i := .bipush 94) (n := 2) (pc' := 96) (st' := [dz_I 94, .ref 115]) rfl rfl ?_
        refine wp_s (i := .iload_n 1) (n := 1) (pc' := 97) (st' := [dz_I a1, dz_I 94, .ref 115]) rfl rfl ?_
        refine wq_2 (i := .iadd) (z := 94 + a1) (pc' := 98) rfl rfl (op_add _ _) rfl ?_
        refine wp_s (i := .iconst 0) (n := 1) (pc' := 99) (st' := [dz_I 0, dz_I (94 + a1), .ref 115]) rfl rfl ?_
        obtain ⟨k25, H⟩ := dz_ck H
        refine wq_is (j' := dz_c (94 + a1)) (x := 0) (pc' := 100) rfl ha_M_0 rfl k25.1 k25.2 rfl (fun Z26 eZ26 => ?_)
        replace H := dz_le H Z26 eZ26
        clear eZ26
        refine wp_s (i := .iload_n 3) (n := 1) (pc' := 101) (st' := [dz_I (Z 114 0 (dz_c (10 + a1)))]) rfl rfl ?_
        refine wq_ri rfl rfl ?_
        replace H := dz_sm H
        exact H
      · replace H := dz_if c15 H
        refine wp_s (i := .iconst (-1)) (n := 1) (pc' := 18) (st' := [dz_I (-1)]) rfl rfl ?_
        refine wq_ri rfl rfl ?_
        replace H := dz_sm H
        exact H
-- 146
def jf_M_settingMany (Z : dz_Z) : Option (Int) := dz_lp (fun (s1 : Int × Int) => if dz_c (Z 114 2 0) ≤ dz_c s1.2 then (some (Sum.inr s1.1)) else (some (Sum.inl (s1.1 * 3, s1.2 + 1)))) 5000 (1, 0)
set_option maxRecDepth 20000 in
theorem jw_M_settingMany {X : Option (List Int32)} {D : Nat} {Q : Option Value → mm_H → Prop} (Z : dz_Z) (H : dz_p (jf_M_settingMany Z) (fun q => Q (some (dz_I q)) (hz_0 Z))) : mm_Wp X D mm_r146 0 [some (.ref 114), none, none] [] (hz_0 Z) Q := by
  unfold jf_M_settingMany at H
  refine wp_s (i := .iconst 1) (n := 1) (pc' := 1) (st' := [dz_I 1]) rfl rfl ?_
  refine wq_st (k := 1) (i := .istore_n 1) (n := 1) (ls' := [some (.ref 114), some (dz_I 1), none]) (pc' := 2) rfl rfl rfl rfl rfl ?_
  refine wp_s (i := .iconst 0) (n := 1) (pc' := 3) (st' := [dz_I 0]) rfl rfl ?_
  refine wq_st (k := 2) (i := .istore_n 2) (n := 1) (ls' := [some (.ref 114), some (dz_I 1), some (dz_I 0)]) (pc' := 4) rfl rfl rfl rfl rfl ?_
  refine dz_lpi (P := fun (s1 : Int × Int) => mm_Wp X D mm_r146 4 [some (.ref 114), some (dz_I s1.1), some (dz_I s1.2)] [] (hz_0 Z) Q) (fun s1 H => ?_) 5000 (1, 0) H
  refine wp_s (i := .iload_n 2) (n := 1) (pc' := 5) (st' := [dz_I s1.2]) rfl rfl ?_
  refine wp_s (i := .aload_n 0) (n := 1) (pc' := 6) (st' := [.ref 114, dz_I s1.2]) rfl rfl ?_
  refine wq_gi (idx := 167) (pc' := 9) rfl rfl ho_M rfl rfl ?_
  refine wq_ic (p := dz_c (Z 114 2 0) ≤ dz_c s1.2) (tt := 22) (pc' := 12) rfl rfl (cq_ge rfl rfl) rfl (fun c2 => ?_) (fun c2 => ?_)
  · replace H := dz_it c2 H
    refine wp_s (i := .iload_n 1) (n := 1) (pc' := 23) (st' := [dz_I s1.1]) rfl rfl ?_
    refine wq_ri rfl rfl ?_
    replace H := dz_out H
    replace H := dz_sm H
    exact H
  · replace H := dz_if c2 H
    refine wp_s (i := .iload_n 1) (n := 1) (pc' := 13) (st' := [dz_I s1.1]) rfl rfl ?_
    refine wp_s (i := .iconst 3) (n := 1) (pc' := 14) (st' := [dz_I 3, dz_I s1.1]) rfl rfl ?_
    refine wq_2 (i := .imul) (z := s1.1 * 3) (pc' := 15) rfl rfl (op_mul _ _) rfl ?_
    refine wq_st (k := 1) (i := .istore_n 1) (n := 1) (ls' := [some (.ref 114), some (dz_I (s1.1 * 3)), some (dz_I s1.2)]) (pc' := 16) rfl rfl rfl rfl rfl ?_
    refine wq_inc (k := 2) (d := 1) (x := s1.2) (ls' := [some (.ref 114), some (dz_I (s1.1 * 3)), some (dz_I (s1.2 + 1))]) (pc' := 19) rfl rfl rfl rfl ?_
    refine wp_s (i := .goto (-15)) (n := 3) (pc' := 4) (st' := []) rfl rfl ?_
    replace H := dz_back H
    exact H
-- 147
def jf_M_settingsNow (Z : dz_Z) : Option (Int) := dz_lp (fun (s1 : Int × Int) => if dz_c s1.2 < 0 then (some (Sum.inr s1.1)) else (if 0 ≤ dz_c (0 + s1.2) ∧ dz_c (0 + s1.2) < 700 then some (Sum.inl ((3 * s1.1) + (Z 114 0 (dz_c (0 + s1.2))), s1.2 + (-1))) else none)) 5000 (0, (Z 114 2 0) - 1)
set_option maxRecDepth 20000 in
theorem jw_M_settingsNow {X : Option (List Int32)} {D : Nat} {Q : Option Value → mm_H → Prop} (Z : dz_Z) (H : dz_p (jf_M_settingsNow Z) (fun q => Q (some (dz_I q)) (hz_0 Z))) : mm_Wp X D mm_r147 0 [some (.ref 114), none, none] [] (hz_0 Z) Q := by
  unfold jf_M_settingsNow at H
  refine wp_s (i := .iconst 0) (n := 1) (pc' := 1) (st' := [dz_I 0]) rfl rfl ?_
  refine wq_st (k := 1) (i := .istore_n 1) (n := 1) (ls' := [some (.ref 114), some (dz_I 0), none]) (pc' := 2) rfl rfl rfl rfl rfl ?_
  refine wp_s (i := .aload_n 0) (n := 1) (pc' := 3) (st' := [.ref 114]) rfl rfl ?_
  refine wq_gi (idx := 167) (pc' := 6) rfl rfl ho_M rfl rfl ?_
  refine wp_s (i := .iconst 1) (n := 1) (pc' := 7) (st' := [dz_I 1, dz_I (Z 114 2 0)]) rfl rfl ?_
  refine wq_2 (i := .isub) (z := (Z 114 2 0) - 1) (pc' := 8) rfl rfl (op_sub _ _) rfl ?_
  refine wq_st (k := 2) (i := .istore_n 2) (n := 1) (ls' := [some (.ref 114), some (dz_I 0), some (dz_I ((Z 114 2 0) - 1))]) (pc' := 9) rfl rfl rfl rfl rfl ?_
  refine dz_lpi (P := fun (s1 : Int × Int) => mm_Wp X D mm_r147 9 [some (.ref 114), some (dz_I s1.1), some (dz_I s1.2)] [] (hz_0 Z) Q) (fun s1 H => ?_) 5000 (0, (Z 114 2 0) - 1) H
  refine wp_s (i := .iload_n 2) (n := 1) (pc' := 10) (st' := [dz_I s1.2]) rfl rfl ?_
  refine wq_if (p := dz_c s1.2 < 0) (tt := 32) (pc' := 13) rfl rfl (cz_lt rfl) rfl (fun c2 => ?_) (fun c2 => ?_)
  · replace H := dz_it c2 H
    refine wp_s (i := .iload_n 1) (n := 1) (pc' := 33) (st' := [dz_I s1.1]) rfl rfl ?_
    refine wq_ri rfl rfl ?_
    replace H := dz_out H
    replace H := dz_sm H
    exact H
  · replace H := dz_if c2 H
    refine wp_s (i := .iconst 3) (n := 1) (pc' := 14) (st' := [dz_I 3]) rfl rfl ?_
    refine wp_s (i := .iload_n 1) (n := 1) (pc' := 15) (st' := [dz_I s1.1, dz_I 3]) rfl rfl ?_
    refine wq_2 (i := .imul) (z := 3 * s1.1) (pc' := 16) rfl rfl (op_mul _ _) rfl ?_
    refine wp_s (i := .aload_n 0) (n := 1) (pc' := 17) (st' := [.ref 114, dz_I (3 * s1.1)]) rfl rfl ?_
    refine wq_gr (idx := 7) (a := 115) (pc' := 20) rfl rfl ho_M rfl rfl ?_
    refine wp_s (i := .iconst 0) (n := 1) (pc' := 21) (st' := [dz_I 0, .ref 115, dz_I (3 * s1.1)]) rfl rfl ?_
    refine wp_s (i := .iload_n 2) (n := 1) (pc' := 22) (st' := [dz_I s1.2, dz_I 0, .ref 115, dz_I (3 * s1.1)]) rfl rfl ?_
    refine wq_2 (i := .iadd) (z := 0 + s1.2) (pc' := 23) rfl rfl (op_add _ _) rfl ?_
    obtain ⟨k3, H⟩ := dz_ck H
    refine wq_ia (j' := dz_c (0 + s1.2)) (pc' := 24) rfl ha_M_0 rfl k3.1 k3.2 rfl ?_
    refine wq_2 (i := .iadd) (z := (3 * s1.1) + (Z 114 0 (dz_c (0 + s1.2)))) (pc' := 25) rfl rfl (op_add _ _) rfl ?_
    refine wq_st (k := 1) (i := .istore_n 1) (n := 1) (ls' := [some (.ref 114), some (dz_I ((3 * s1.1) + (Z 114 0 (dz_c (0 + s1.2))))), some (dz_I s1.2)]) (pc' := 26) rfl rfl rfl rfl rfl ?_
    refine wq_inc (k := 2) (d := (-1)) (x := s1.2) (ls' := [some (.ref 114), some (dz_I ((3 * s1.1) + (Z 114 0 (dz_c (0 + s1.2))))), some (dz_I (s1.2 + (-1)))]) (pc' := 29) rfl rfl rfl rfl ?_
    refine wp_s (i := .goto (-20)) (n := 3) (pc' := 9) (st' := []) rfl rfl ?_
    replace H := dz_back H
    exact H
-- 148
def jf_M_sets (a1 : Int) (Z : dz_Z) : Option (dz_Z) := dz_lp (fun (s1 : Int × Int × dz_Z) => if dz_c (s1.2.2 114 2 0) ≤ dz_c s1.2.1 then (some (Sum.inr s1.2.2)) else (if 0 ≤ dz_c (0 + s1.2.1) ∧ dz_c (0 + s1.2.1) < 700 then dz_a (dz_u s1.2.2 114 0 (dz_c (0 + s1.2.1)) (Int.tmod (dz_c s1.1) 3)) fun Z4 => some (Sum.inl (Int.tdiv (dz_c s1.1) 3, s1.2.1 + 1, Z4)) else none)) 5000 (a1, 0, Z)
set_option maxRecDepth 20000 in
theorem jw_M_sets {X : Option (List Int32)} {D : Nat} {Q : Option Value → mm_H → Prop} (a1 : Int) (Z : dz_Z) (H : dz_p (jf_M_sets a1 Z) (fun q => Q (none) (hz_0 q))) : mm_Wp X D mm_r148 0 [some (.ref 114), some (dz_I a1), none, none] [] (hz_0 Z) Q := by
  unfold jf_M_sets at H
  refine wp_s (i := .iload_n 1) (n := 1) (pc' := 1) (st' := [dz_I a1]) rfl rfl ?_
  refine wq_st (k := 2) (i := .istore_n 2) (n := 1) (ls' := [some (.ref 114), some (dz_I a1), some (dz_I a1), none]) (pc' := 2) rfl rfl rfl rfl rfl ?_
  refine wp_s (i := .iconst 0) (n := 1) (pc' := 3) (st' := [dz_I 0]) rfl rfl ?_
  refine wq_st (k := 3) (i := .istore_n 3) (n := 1) (ls' := [some (.ref 114), some (dz_I a1), some (dz_I a1), some (dz_I 0)]) (pc' := 4) rfl rfl rfl rfl rfl ?_
  refine dz_lpi (P := fun (s1 : Int × Int × dz_Z) => mm_Wp X D mm_r148 4 [some (.ref 114), some (dz_I a1), some (dz_I s1.1), some (dz_I s1.2.1)] [] (hz_0 s1.2.2) Q) (fun s1 H => ?_) 5000 (a1, 0, Z) H
  refine wp_s (i := .iload_n 3) (n := 1) (pc' := 5) (st' := [dz_I s1.2.1]) rfl rfl ?_
  refine wp_s (i := .aload_n 0) (n := 1) (pc' := 6) (st' := [.ref 114, dz_I s1.2.1]) rfl rfl ?_
  refine wq_gi (idx := 167) (pc' := 9) rfl rfl ho_M rfl rfl ?_
  refine wq_ic (p := dz_c (s1.2.2 114 2 0) ≤ dz_c s1.2.1) (tt := 33) (pc' := 12) rfl rfl (cq_ge rfl rfl) rfl (fun c2 => ?_) (fun c2 => ?_)
  · replace H := dz_it c2 H
    refine wq_rv rfl rfl ?_
    replace H := dz_out H
    replace H := dz_sm H
    exact H
  · replace H := dz_if c2 H
    refine wp_s (i := .aload_n 0) (n := 1) (pc' := 13) (st' := [.ref 114]) rfl rfl ?_
    refine wq_gr (idx := 7) (a := 115) (pc' := 16) rfl rfl ho_M rfl rfl ?_
    refine wp_s (i := .iconst 0) (n := 1) (pc' := 17) (st' := [dz_I 0, .ref 115]) rfl rfl ?_
    refine wp_s (i := .iload_n 3) (n := 1) (pc' := 18) (st' := [dz_I s1.2.1, dz_I 0, .ref 115]) rfl rfl ?_
    refine wq_2 (i := .iadd) (z := 0 + s1.2.1) (pc' := 19) rfl rfl (op_add _ _) rfl ?_
    refine wp_s (i := .iload_n 2) (n := 1) (pc' := 20) (st' := [dz_I s1.1, dz_I (0 + s1.2.1), .ref 115]) rfl rfl ?_
    refine wp_s (i := .iconst 3) (n := 1) (pc' := 21) (st' := [dz_I 3, dz_I s1.1, dz_I (0 + s1.2.1), .ref 115]) rfl rfl ?_
    refine wq_2 (i := .irem) (z := Int.tmod (dz_c s1.1) 3) (pc' := 22) rfl rfl (op_rem rfl dk_3 (by decide)) rfl ?_
    obtain ⟨k3, H⟩ := dz_ck H
    refine wq_is (j' := dz_c (0 + s1.2.1)) (x := Int.tmod (dz_c s1.1) 3) (pc' := 23) rfl ha_M_0 rfl k3.1 k3.2 rfl (fun Z4 eZ4 => ?_)
    replace H := dz_le H Z4 eZ4
    clear eZ4
    refine wp_s (i := .iload_n 2) (n := 1) (pc' := 24) (st' := [dz_I s1.1]) rfl rfl ?_
    refine wp_s (i := .iconst 3) (n := 1) (pc' := 25) (st' := [dz_I 3, dz_I s1.1]) rfl rfl ?_
    refine wq_2 (i := .idiv) (z := Int.tdiv (dz_c s1.1) 3) (pc' := 26) rfl rfl (op_div rfl dk_3 (by decide)) rfl ?_
    refine wq_st (k := 2) (i := .istore_n 2) (n := 1) (ls' := [some (.ref 114), some (dz_I a1), some (dz_I (Int.tdiv (dz_c s1.1) 3)), some (dz_I s1.2.1)]) (pc' := 27) rfl rfl rfl rfl rfl ?_
    refine wq_inc (k := 3) (d := 1) (x := s1.2.1) (ls' := [some (.ref 114), some (dz_I a1), some (dz_I (Int.tdiv (dz_c s1.1) 3)), some (dz_I (s1.2.1 + 1))]) (pc' := 30) rfl rfl rfl rfl ?_
    refine wp_s (i := .goto (-26)) (n := 3) (pc' := 4) (st' := []) rfl rfl ?_
    replace H := dz_back H
    exact H
-- 149
def jf_M_settings (a1 : Int) (Z : dz_Z) : Option (Int × dz_Z) := Option.bind (jf_M_settingMany Z) fun q1 => if 0 ≤ dz_c a1 ∧ dz_c a1 ≤ dz_c (q1 - 1) then (Option.bind (jf_M_settingsNow Z) fun q3 => Option.bind (jf_M_sets a1 Z) fun q4 => some (q3, q4)) else (some ((-1), Z))
set_option maxRecDepth 20000 in
theorem jw_M_settings {X : Option (List Int32)} {D : Nat} {Q : Option Value → mm_H → Prop} (a1 : Int) (Z : dz_Z) (H : dz_p (jf_M_settings a1 Z) (fun q => Q (some (dz_I q.1)) (hz_0 q.2))) : mm_Wp X (D + 1) mm_r149 0 [some (.ref 114), some (dz_I a1), none] [] (hz_0 Z) Q := by
  unfold jf_M_settings at H
  refine wp_s (i := .iload_n 1) (n := 1) (pc' := 1) (st' := [dz_I a1]) rfl rfl ?_
  refine wq_3 (i := .i2l) (v' := dz_J (dz_c a1)) (pc' := 2) rfl rfl (oq_i2l' rfl) rfl ?_
  refine wp_s (i := .lconst 0) (n := 1) (pc' := 3) (st' := [dz_J 0, dz_J (dz_c a1)]) rfl rfl ?_
  refine wp_s (i := .aload_n 0) (n := 1) (pc' := 4) (st' := [.ref 114, dz_J 0, dz_J (dz_c a1)]) rfl rfl ?_
  refine wq_cv (Dq := D) (r' := mm_r146) (as0 := []) (rest := [dz_J 0, dz_J (dz_c a1)]) (ls' := [some (.ref 114), none, none]) (pc' := 7) rfl rfl rfl rfl ho_M rfl rfl rfl ?_
  refine jw_M_settingMany (X := X) (D := D + 0) Z (dz_pm (dz_bi H) (fun q1 H => ?_))
  show mm_Wp X (D + 1) mm_r149 7 [some (.ref 114), some (dz_I a1), none] [dz_I q1, dz_J 0, dz_J (dz_c a1)] (hz_0 Z) Q
  refine wp_s (i := .iconst 1) (n := 1) (pc' := 8) (st' := [dz_I 1, dz_I q1, dz_J 0, dz_J (dz_c a1)]) rfl rfl ?_
  refine wq_2 (i := .isub) (z := q1 - 1) (pc' := 9) rfl rfl (op_sub _ _) rfl ?_
  refine wq_3 (i := .i2l) (v' := dz_J (dz_c (q1 - 1))) (pc' := 10) rfl rfl (oq_i2l' rfl) rfl ?_
  refine wq_cs (Dq := D) (r' := mm_r120) (as0 := [dz_J (dz_c a1), dz_J 0, dz_J (dz_c (q1 - 1))]) (rest := []) (ls' := [some (dz_J (dz_c a1)), none, some (dz_J 0), none, some (dz_J (dz_c (q1 - 1))), none]) (pc' := 13) rfl rfl (by decide) rfl rfl rfl rfl rfl ?_
  refine jw_in (a' := dz_c a1) (b' := 0) (c' := dz_c (q1 - 1)) (dz_lc _) (by decide) (dz_lc _) ?_
  show mm_Wp X (D + 1) mm_r149 13 [some (.ref 114), some (dz_I a1), none] [dz_B (decide (0 ≤ dz_c a1 ∧ dz_c a1 ≤ dz_c (q1 - 1)))] (hz_0 Z) Q
  refine wq_if (p := 0 ≤ dz_c a1 ∧ dz_c a1 ≤ dz_c (q1 - 1)) (tt := 18) (pc' := 16) rfl rfl (cd_ne) rfl (fun c2 => ?_) (fun c2 => ?_)
  · replace H := dz_it c2 H
    refine wp_s (i := .aload_n 0) (n := 1) (pc' := 19) (st' := [.ref 114]) rfl rfl ?_
    refine wq_cv (Dq := D) (r' := mm_r147) (as0 := []) (rest := []) (ls' := [some (.ref 114), none, none]) (pc' := 22) rfl rfl rfl rfl ho_M rfl rfl rfl ?_
    refine jw_M_settingsNow (X := X) (D := D + 0) Z (dz_pm (dz_bi H) (fun q3 H => ?_))
    show mm_Wp X (D + 1) mm_r149 22 [some (.ref 114), some (dz_I a1), none] [dz_I q3] (hz_0 Z) Q
    refine wq_st (k := 2) (i := .istore_n 2) (n := 1) (ls' := [some (.ref 114), some (dz_I a1), some (dz_I q3)]) (pc' := 23) rfl rfl rfl rfl rfl ?_
    refine wp_s (i := .aload_n 0) (n := 1) (pc' := 24) (st' := [.ref 114]) rfl rfl ?_
    refine wp_s (i := .iload_n 1) (n := 1) (pc' := 25) (st' := [dz_I a1, .ref 114]) rfl rfl ?_
    refine wq_cv (Dq := D) (r' := mm_r148) (as0 := [dz_I a1]) (rest := []) (ls' := [some (.ref 114), some (dz_I a1), none, none]) (pc' := 28) rfl rfl rfl rfl ho_M rfl rfl rfl ?_
    refine jw_M_sets (X := X) (D := D + 0) a1 Z (dz_pm (dz_bi H) (fun q4 H => ?_))
    show mm_Wp X (D + 1) mm_r149 28 [some (.ref 114), some (dz_I a1), some (dz_I q3)] [] (hz_0 q4) Q
    refine wp_s (i := .iload_n 2) (n := 1) (pc' := 29) (st' := [dz_I q3]) rfl rfl ?_
    refine wq_ri rfl rfl ?_
    replace H := dz_sm H
    exact H
  · replace H := dz_if c2 H
    refine wp_s (i := .iconst (-1)) (n := 1) (pc' := 17) (st' := [dz_I (-1)]) rfl rfl ?_
    refine wq_ri rfl rfl ?_
    replace H := dz_sm H
    exact H
-- 150
def jf_M_leads (a1 : Int) (a2 : Int) (a3 : Int) (Z : dz_Z) : Option (dz_Z) := if dz_c a2 ≠ 20 then (if dz_c a2 < 10 then (if 0 ≤ dz_c a2 ∧ dz_c a2 < 5 then dz_a (dz_u Z 114 32 (dz_c a2) ((Z 114 32 (dz_c a2)) + a3)) fun Z4 => some Z4 else none) else (if 0 ≤ dz_c (a2 - 10) ∧ dz_c (a2 - 10) < 8 then dz_a (dz_u Z 114 33 (dz_c (a2 - 10)) ((Z 114 33 (dz_c (a2 - 10))) + a3)) fun Z6 => some Z6 else none)) else (if 0 ≤ dz_c (a1 + 136) ∧ dz_c (a1 + 136) < 700 then dz_a (dz_u Z 114 0 (dz_c (a1 + 136)) ((Z 114 0 (dz_c (a1 + 136))) + a3)) fun Z8 => some Z8 else none)
set_option maxRecDepth 20000 in
theorem jw_M_leads {X : Option (List Int32)} {D : Nat} {Q : Option Value → mm_H → Prop} (a1 : Int) (a2 : Int) (a3 : Int) (Z : dz_Z) (H : dz_p (jf_M_leads a1 a2 a3 Z) (fun q => Q (none) (hz_0 q))) : mm_Wp X D mm_r150 0 [some (.ref 114), some (dz_I a1), some (dz_I a2), some (dz_I a3)] [] (hz_0 Z) Q := by
  unfold jf_M_leads at H
  refine wp_s (i := .iload_n 2) (n := 1) (pc' := 1) (st' := [dz_I a2]) rfl rfl ?_
  refine wp_s (i := .bipush 20) (n := 2) (pc' := 3) (st' := [dz_I 20, dz_I a2]) rfl rfl ?_
  refine wq_ic (p := dz_c a2 ≠ 20) (tt := 23) (pc' := 6) rfl rfl (cq_ne rfl dk_20) rfl (fun c1 => ?_) (fun c1 => ?_)
  · replace H := dz_it c1 H
    refine wp_s (i := .iload_n 2) (n := 1) (pc' := 24) (st' := [dz_I a2]) rfl rfl ?_
    refine wp_s (i := .bipush 10) (n := 2) (pc' := 26) (st' := [dz_I 10, dz_I a2]) rfl rfl ?_
    refine wq_ic (p := dz_c a2 < 10) (tt := 45) (pc' := 29) rfl rfl (cq_lt rfl dk_10) rfl (fun c2 => ?_) (fun c2 => ?_)
    · replace H := dz_it c2 H
      refine wp_s (i := .aload_n 0) (n := 1) (pc' := 46) (st' := [.ref 114]) rfl rfl ?_
      refine wq_gr (idx := 52) (a := 129) (pc' := 49) rfl rfl ho_M rfl rfl ?_
      refine wp_s (i := .iload_n 2) (n := 1) (pc' := 50) (st' := [dz_I a2, .ref 129]) rfl rfl ?_
      refine wp_s (i := .dup2) (n := 1) (pc' := 51) (st' := [dz_I a2, .ref 129, dz_I a2, .ref 129]) rfl rfl ?_
      obtain ⟨k3, H⟩ := dz_ck H
      refine wq_ia (j' := dz_c a2) (pc' := 52) rfl ha_M_32 rfl k3.1 k3.2 rfl ?_
      refine wp_s (i := .iload_n 3) (n := 1) (pc' := 53) (st' := [dz_I a3, dz_I (Z 114 32 (dz_c a2)), dz_I a2, .ref 129]) rfl rfl ?_
      refine wq_2 (i := .iadd) (z := (Z 114 32 (dz_c a2)) + a3) (pc' := 54) rfl rfl (op_add _ _) rfl ?_
      refine wq_is (j' := dz_c a2) (x := (Z 114 32 (dz_c a2)) + a3) (pc' := 55) rfl ha_M_32 rfl k3.1 k3.2 rfl (fun Z4 eZ4 => ?_)
      replace H := dz_le H Z4 eZ4
      clear eZ4
      refine wq_rv rfl rfl ?_
      replace H := dz_sm H
      exact H
    · replace H := dz_if c2 H
      refine wp_s (i := .aload_n 0) (n := 1) (pc' := 30) (st' := [.ref 114]) rfl rfl ?_
      refine wq_gr (idx := 55) (a := 130) (pc' := 33) rfl rfl ho_M rfl rfl ?_
      refine wp_s (i := .iload_n 2) (n := 1) (pc' := 34) (st' := [dz_I a2, .ref 130]) rfl rfl ?_
      refine wp_s (i := .bipush 10) (n := 2) (pc' := 36) (st' := [dz_I 10, dz_I a2, .ref 130]) rfl rfl ?_
      refine wq_2 (i := .isub) (z := a2 - 10) (pc' := 37) rfl rfl (op_sub _ _) rfl ?_
      refine wp_s (i := .dup2) (n := 1) (pc' := 38) (st' := [dz_I (a2 - 10), .ref 130, dz_I (a2 - 10), .ref 130]) rfl rfl ?_
      obtain ⟨k5, H⟩ := dz_ck H
      refine wq_ia (j' := dz_c (a2 - 10)) (pc' := 39) rfl ha_M_33 rfl k5.1 k5.2 rfl ?_
      refine wp_s (i := .iload_n 3) (n := 1) (pc' := 40) (st' := [dz_I a3, dz_I (Z 114 33 (dz_c (a2 - 10))), dz_I (a2 - 10), .ref 130]) rfl rfl ?_
      refine wq_2 (i := .iadd) (z := (Z 114 33 (dz_c (a2 - 10))) + a3) (pc' := 41) rfl rfl (op_add _ _) rfl ?_
      refine wq_is (j' := dz_c (a2 - 10)) (x := (Z 114 33 (dz_c (a2 - 10))) + a3) (pc' := 42) rfl ha_M_33 rfl k5.1 k5.2 rfl (fun Z6 eZ6 => ?_)
      replace H := dz_le H Z6 eZ6
      clear eZ6
      refine wp_s (i := .goto 13) (n := 3) (pc' := 55) (st' := []) rfl rfl ?_
      refine wq_rv rfl rfl ?_
      replace H := dz_sm H
      exact H
  · replace H := dz_if c1 H
    refine wp_s (i := .aload_n 0) (n := 1) (pc' := 7) (st' := [.ref 114]) rfl rfl ?_
    refine wq_gr (idx := 7) (a := 115) (pc' := 10) rfl rfl ho_M rfl rfl ?_
    refine wp_s (i := .iload_n 1) (n := 1) (pc' := 11) (st' := [dz_I a1, .ref 115]) rfl rfl ?_
    refine wp_s (i := .sipush 136) (n := 3) (pc' := 14) (st' := [dz_I 136, dz_I a1, .ref 115]) rfl rfl ?_
    refine wq_2 (i := .iadd) (z := a1 + 136) (pc' := 15) rfl rfl (op_add _ _) rfl ?_
    refine wp_s (i := .dup2) (n := 1) (pc' := 16) (st' := [dz_I (a1 + 136), .ref 115, dz_I (a1 + 136), .ref 115]) rfl rfl ?_
    obtain ⟨k7, H⟩ := dz_ck H
    refine wq_ia (j' := dz_c (a1 + 136)) (pc' := 17) rfl ha_M_0 rfl k7.1 k7.2 rfl ?_
    refine wp_s (i := .iload_n 3) (n := 1) (pc' := 18) (st' := [dz_I a3, dz_I (Z 114 0 (dz_c (a1 + 136))), dz_I (a1 + 136), .ref 115]) rfl rfl ?_
    refine wq_2 (i := .iadd) (z := (Z 114 0 (dz_c (a1 + 136))) + a3) (pc' := 19) rfl rfl (op_add _ _) rfl ?_
    refine wq_is (j' := dz_c (a1 + 136)) (x := (Z 114 0 (dz_c (a1 + 136))) + a3) (pc' := 20) rfl ha_M_0 rfl k7.1 k7.2 rfl (fun Z8 eZ8 => ?_)
    replace H := dz_le H Z8 eZ8
    clear eZ8
    refine wp_s (i := .goto 35) (n := 3) (pc' := 55) (st' := []) rfl rfl ?_
    refine wq_rv rfl rfl ?_
    replace H := dz_sm H
    exact H
-- 151
def jf_M_gutters (a1 : Int) (a2 : Int) (Z : dz_Z) : Option (dz_Z) := dz_lp (fun (s1 : Int × dz_Z) => if 8 ≤ dz_c s1.1 then (dz_lp (fun (s3 : Int × dz_Z) => if dz_c (s3.2 114 1 0) ≤ dz_c s3.1 then (dz_lp (fun (s5 : Int × dz_Z) => if dz_c (s5.2 114 2 0) ≤ dz_c s5.1 then (some (Sum.inr (Sum.inr (Sum.inr s5.2)))) else (if 0 ≤ dz_c s5.1 ∧ dz_c s5.1 < 5 then if 0 ≤ dz_c (0 + s5.1) ∧ dz_c (0 + s5.1) < 700 then Option.bind (α := Int) (if dz_c (s5.2 114 0 (dz_c (0 + s5.1))) ≠ 0 then (if dz_c (s5.2 114 0 (dz_c (0 + s5.1))) ≠ 1 then (if 0 ≤ dz_c (a1 + 134) ∧ dz_c (a1 + 134) < 700 then if dz_c (Int.tmod (dz_c (s5.2 114 0 (dz_c (a1 + 134)))) 2) ≠ 0 then (some (Int.tdiv (dz_c ((s5.2 114 32 (dz_c s5.1)) + 0)) 2)) else (some (Int.tdiv (dz_c ((s5.2 114 32 (dz_c s5.1)) + 1)) 2)) else none) else (some 0)) else (some (s5.2 114 32 (dz_c s5.1)))) (fun (q16 : Int) => if 0 ≤ dz_c (5 + s5.1) ∧ dz_c (5 + s5.1) < 700 then if dz_c (s5.2 114 0 (dz_c (5 + s5.1))) ≠ 1 then (if 0 ≤ dz_c (2 * s5.1) ∧ dz_c (2 * s5.1) < 10 then Option.bind (jf_M_leads a1 (s5.2 114 8 (dz_c (2 * s5.1))) q16 s5.2) fun q20 => if 0 ≤ dz_c ((2 * s5.1) + 1) ∧ dz_c ((2 * s5.1) + 1) < 10 then Option.bind (jf_M_leads a1 (q20 114 8 (dz_c ((2 * s5.1) + 1))) ((s5.2 114 32 (dz_c s5.1)) - q16) q20) fun q22 => some (Sum.inl (s5.1 + 1, q22)) else none else none) else (if 0 ≤ dz_c (a1 + 136) ∧ dz_c (a1 + 136) < 700 then dz_a (dz_u s5.2 114 0 (dz_c (a1 + 136)) ((s5.2 114 0 (dz_c (a1 + 136))) + (s5.2 114 32 (dz_c s5.1)))) fun Z24 => some (Sum.inl (s5.1 + 1, Z24)) else none) else none) else none else none)) 5000 (0, s3.2)) else (if 0 ≤ dz_c ((2 * s3.1) + 1) ∧ dz_c ((2 * s3.1) + 1) < 8 then if 0 ≤ dz_c (s3.2 114 7 (dz_c ((2 * s3.1) + 1))) ∧ dz_c (s3.2 114 7 (dz_c ((2 * s3.1) + 1))) < 5 then if 0 ≤ dz_c (2 * s3.1) ∧ dz_c (2 * s3.1) < 8 then dz_a (dz_u s3.2 114 32 (dz_c (s3.2 114 7 (dz_c ((2 * s3.1) + 1)))) ((s3.2 114 32 (dz_c (s3.2 114 7 (dz_c ((2 * s3.1) + 1))))) + ((s3.2 114 7 (dz_c (2 * s3.1))) * a2))) fun Z32 => if 0 ≤ dz_c (a1 + 135) ∧ dz_c (a1 + 135) < 700 then dz_a (dz_u Z32 114 0 (dz_c (a1 + 135)) ((Z32 114 0 (dz_c (a1 + 135))) + ((Z32 114 7 (dz_c (2 * s3.1))) * a2))) fun Z34 => some (Sum.inl (s3.1 + 1, Z34)) else none else none else none else none)) 5000 (0, s1.2)) else (if 0 ≤ dz_c (Int.tmod (dz_c s1.1) 5) ∧ dz_c (Int.tmod (dz_c s1.1) 5) < 5 then dz_a (dz_u s1.2 114 32 (dz_c (Int.tmod (dz_c s1.1) 5)) 0) fun Z36 => if 0 ≤ dz_c s1.1 ∧ dz_c s1.1 < 8 then dz_a (dz_u Z36 114 33 (dz_c s1.1) 0) fun Z38 => some (Sum.inl (s1.1 + 1, Z38)) else none else none)) 5000 (0, Z)
set_option maxRecDepth 20000 in
theorem jw_M_gutters {X : Option (List Int32)} {D : Nat} {Q : Option Value → mm_H → Prop} (a1 : Int) (a2 : Int) (Z : dz_Z) (H : dz_p (jf_M_gutters a1 a2 Z) (fun q => Q (none) (hz_0 q))) : mm_Wp X (D + 1) mm_r151 0 [some (.ref 114), some (dz_I a1), some (dz_I a2), none, none, none, none] [] (hz_0 Z) Q := by
  unfold jf_M_gutters at H
  refine wp_s (i := .iconst 0) (n := 1) (pc' := 1) (st' := [dz_I 0]) rfl rfl ?_
  refine wq_st (k := 3) (i := .istore_n 3) (n := 1) (ls' := [some (.ref 114), some (dz_I a1), some (dz_I a2), some (dz_I 0), none, none, none]) (pc' := 2) rfl rfl rfl rfl rfl ?_
  refine dz_lpi (P := fun (s1 : Int × dz_Z) => mm_Wp X (D + 1) mm_r151 2 [some (.ref 114), some (dz_I a1), some (dz_I a2), some (dz_I s1.1), none, none, none] [] (hz_0 s1.2) Q) (fun s1 H => ?_) 5000 (0, Z) H
  refine wp_s (i := .iload_n 3) (n := 1) (pc' := 3) (st' := [dz_I s1.1]) rfl rfl ?_
  refine wp_s (i := .bipush 8) (n := 2) (pc' := 5) (st' := [dz_I 8, dz_I s1.1]) rfl rfl ?_
  refine wq_ic (p := 8 ≤ dz_c s1.1) (tt := 30) (pc' := 8) rfl rfl (cq_ge rfl dk_8) rfl (fun c2 => ?_) (fun c2 => ?_)
  · replace H := dz_it c2 H
    refine wp_s (i := .iconst 0) (n := 1) (pc' := 31) (st' := [dz_I 0]) rfl rfl ?_
    refine wq_st (k := 3) (i := .istore_n 3) (n := 1) (ls' := [some (.ref 114), some (dz_I a1), some (dz_I a2), some (dz_I 0), none, none, none]) (pc' := 32) rfl rfl rfl rfl rfl ?_
    refine dz_lpi (P := fun (s3 : Int × dz_Z) => mm_Wp X (D + 1) mm_r151 32 [some (.ref 114), some (dz_I a1), some (dz_I a2), some (dz_I s3.1), none, none, none] [] (hz_0 s3.2) Q) (fun s3 H => ?_) 5000 (0, s1.2) H
    refine wp_s (i := .iload_n 3) (n := 1) (pc' := 33) (st' := [dz_I s3.1]) rfl rfl ?_
    refine wp_s (i := .aload_n 0) (n := 1) (pc' := 34) (st' := [.ref 114, dz_I s3.1]) rfl rfl ?_
    refine wq_gi (idx := 164) (pc' := 37) rfl rfl ho_M rfl rfl ?_
    refine wq_ic (p := dz_c (s3.2 114 1 0) ≤ dz_c s3.1) (tt := 97) (pc' := 40) rfl rfl (cq_ge rfl rfl) rfl (fun c4 => ?_) (fun c4 => ?_)
    · replace H := dz_it c4 H
      refine wp_s (i := .iconst 0) (n := 1) (pc' := 98) (st' := [dz_I 0]) rfl rfl ?_
      refine wq_st (k := 3) (i := .istore_n 3) (n := 1) (ls' := [some (.ref 114), some (dz_I a1), some (dz_I a2), some (dz_I 0), none, none, none]) (pc' := 99) rfl rfl rfl rfl rfl ?_
      refine dz_lpi (P := fun (s5 : Int × dz_Z) => ∀ (u6 u7 u8 : Option Int32), mm_Wp X (D + 1) mm_r151 99 [some (.ref 114), some (dz_I a1), some (dz_I a2), some (dz_I s5.1), Option.map Value.int u6, Option.map Value.int u7, Option.map Value.int u8] [] (hz_0 s5.2) Q) (fun s5 H => ?_) 5000 (0, s3.2) H none none none
      intro u6 u7 u8
      refine wp_s (i := .iload_n 3) (n := 1) (pc' := 100) (st' := [dz_I s5.1]) rfl rfl ?_
      refine wp_s (i := .aload_n 0) (n := 1) (pc' := 101) (st' := [.ref 114, dz_I s5.1]) rfl rfl ?_
      refine wq_gi (idx := 167) (pc' := 104) rfl rfl ho_M rfl rfl ?_
      refine wq_ic (p := dz_c (s5.2 114 2 0) ≤ dz_c s5.1) (tt := 243) (pc' := 107) rfl rfl (cq_ge rfl rfl) rfl (fun c9 => ?_) (fun c9 => ?_)
      · replace H := dz_it c9 H
        refine wq_rv rfl rfl ?_
        replace H := dz_out H
        replace H := dz_out H
        replace H := dz_out H
        replace H := dz_sm H
        exact H
      · replace H := dz_if c9 H
        refine wp_s (i := .aload_n 0) (n := 1) (pc' := 108) (st' := [.ref 114]) rfl rfl ?_
        refine wq_gr (idx := 52) (a := 129) (pc' := 111) rfl rfl ho_M rfl rfl ?_
        refine wp_s (i := .iload_n 3) (n := 1) (pc' := 112) (st' := [dz_I s5.1, .ref 129]) rfl rfl ?_
        obtain ⟨k10, H⟩ := dz_ck H
        refine wq_ia (j' := dz_c s5.1) (pc' := 113) rfl ha_M_32 rfl k10.1 k10.2 rfl ?_
        refine wq_st (k := 4) (i := .istore 4) (n := 2) (ls' := [some (.ref 114), some (dz_I a1), some (dz_I a2), some (dz_I s5.1), some (dz_I (s5.2 114 32 (dz_c s5.1))), Option.map Value.int u7, Option.map Value.int u8]) (pc' := 115) rfl rfl rfl rfl rfl ?_
        refine wp_s (i := .aload_n 0) (n := 1) (pc' := 116) (st' := [.ref 114]) rfl rfl ?_
        refine wq_gr (idx := 7) (a := 115) (pc' := 119) rfl rfl ho_M rfl rfl ?_
        refine wp_s (i := .iconst 0) (n := 1) (pc' := 120) (st' := [dz_I 0, .ref 115]) rfl rfl ?_
        refine wp_s (i := .iload_n 3) (n := 1) (pc' := 121) (st' := [dz_I s5.1, dz_I 0, .ref 115]) rfl rfl ?_
        refine wq_2 (i := .iadd) (z := 0 + s5.1) (pc' := 122) rfl rfl (op_add _ _) rfl ?_
        obtain ⟨k11, H⟩ := dz_ck H
        refine wq_ia (j' := dz_c (0 + s5.1)) (pc' := 123) rfl ha_M_0 rfl k11.1 k11.2 rfl ?_
        refine wq_st (k := 5) (i := .istore 5) (n := 2) (ls' := [some (.ref 114), some (dz_I a1), some (dz_I a2), some (dz_I s5.1), some (dz_I (s5.2 114 32 (dz_c s5.1))), some (dz_I (s5.2 114 0 (dz_c (0 + s5.1)))), Option.map Value.int u8]) (pc' := 125) rfl rfl rfl rfl rfl ?_
        refine wp_s (i := .iload 5) (n := 2) (pc' := 127) (st' := [dz_I (s5.2 114 0 (dz_c (0 + s5.1)))]) rfl rfl ?_
        refine dz_jn (P := fun (q16 : Int) => mm_Wp X (D + 1) mm_r151 170 [some (.ref 114), some (dz_I a1), some (dz_I a2), some (dz_I s5.1), some (dz_I (s5.2 114 32 (dz_c s5.1))), some (dz_I (s5.2 114 0 (dz_c (0 + s5.1)))), Option.map Value.int u8] [dz_I q16] (hz_0 s5.2) Q) (dz_bi H) (fun q16 H => ?_) (fun H => ?_)
        · skip
          refine wq_st (k := 6) (i := .istore 6) (n := 2) (ls' := [some (.ref 114), some (dz_I a1), some (dz_I a2), some (dz_I s5.1), some (dz_I (s5.2 114 32 (dz_c s5.1))), some (dz_I (s5.2 114 0 (dz_c (0 + s5.1)))), some (dz_I q16)]) (pc' := 172) rfl rfl rfl rfl rfl ?_
          refine wp_s (i := .aload_n 0) (n := 1) (pc' := 173) (st' := [.ref 114]) rfl rfl ?_
          refine wq_gr (idx := 7) (a := 115) (pc' := 176) rfl rfl ho_M rfl rfl ?_
          refine wp_s (i := .iconst 5) (n := 1) (pc' := 177) (st' := [dz_I 5, .ref 115]) rfl rfl ?_
          refine wp_s (i := .iload_n 3) (n := 1) (pc' := 178) (st' := [dz_I s5.1, dz_I 5, .ref 115]) rfl rfl ?_
          refine wq_2 (i := .iadd) (z := 5 + s5.1) (pc' := 179) rfl rfl (op_add _ _) rfl ?_
          obtain ⟨k17, H⟩ := dz_ck H
          refine wq_ia (j' := dz_c (5 + s5.1)) (pc' := 180) rfl ha_M_0 rfl k17.1 k17.2 rfl ?_
          refine wp_s (i := .iconst 1) (n := 1) (pc' := 181) (st' := [dz_I 1, dz_I (s5.2 114 0 (dz_c (5 + s5.1)))]) rfl rfl ?_
          refine wq_ic (p := dz_c (s5.2 114 0 (dz_c (5 + s5.1))) ≠ 1) (tt := 202) (pc' := 184) rfl rfl (cq_ne rfl dk_1) rfl (fun c18 => ?_) (fun c18 => ?_)
          · replace H := dz_it c18 H
            refine wp_s (i := .aload_n 0) (n := 1) (pc' := 203) (st' := [.ref 114]) rfl rfl ?_
            refine wp_s (i := .iload_n 1) (n := 1) (pc' := 204) (st' := [dz_I a1, .ref 114]) rfl rfl ?_
            refine wp_s (i := .aload_n 0) (n := 1) (pc' := 205) (st' := [.ref 114, dz_I a1, .ref 114]) rfl rfl ?_
            refine wq_gr (idx := 16) (a := 117) (pc' := 208) rfl rfl ho_M rfl rfl ?_
            refine wp_s (i := .iconst 2) (n := 1) (pc' := 209) (st' := [dz_I 2, .ref 117, dz_I a1, .ref 114]) rfl rfl ?_
            refine wp_s (i := .iload_n 3) (n := 1) (pc' := 210) (st' := [dz_I s5.1, dz_I 2, .ref 117, dz_I a1, .ref 114]) rfl rfl ?_
            refine wq_2 (i := .imul) (z := 2 * s5.1) (pc' := 211) rfl rfl (op_mul _ _) rfl ?_
            obtain ⟨k19, H⟩ := dz_ck H
            refine wq_ia (j' := dz_c (2 * s5.1)) (pc' := 212) rfl ha_M_8 rfl k19.1 k19.2 rfl ?_
            refine wp_s (i := .iload 6) (n := 2) (pc' := 214) (st' := [dz_I q16, dz_I (s5.2 114 8 (dz_c (2 * s5.1))), dz_I a1, .ref 114]) rfl rfl ?_
            refine wq_cv (Dq := D) (r' := mm_r150) (as0 := [dz_I a1, dz_I (s5.2 114 8 (dz_c (2 * s5.1))), dz_I q16]) (rest := []) (ls' := [some (.ref 114), some (dz_I a1), some (dz_I (s5.2 114 8 (dz_c (2 * s5.1)))), some (dz_I q16)]) (pc' := 217) rfl rfl rfl rfl ho_M rfl rfl rfl ?_
            refine jw_M_leads (X := X) (D := D + 0) a1 (s5.2 114 8 (dz_c (2 * s5.1))) q16 s5.2 (dz_pm (dz_bi H) (fun q20 H => ?_))
            show mm_Wp X (D + 1) mm_r151 217 [some (.ref 114), some (dz_I a1), some (dz_I a2), some (dz_I s5.1), some (dz_I (s5.2 114 32 (dz_c s5.1))), some (dz_I (s5.2 114 0 (dz_c (0 + s5.1)))), some (dz_I q16)] [] (hz_0 q20) Q
            refine wp_s (i := .aload_n 0) (n := 1) (pc' := 218) (st' := [.ref 114]) rfl rfl ?_
            refine wp_s (i := .iload_n 1) (n := 1) (pc' := 219) (st' := [dz_I a1, .ref 114]) rfl rfl ?_
            refine wp_s (i := .aload_n 0) (n := 1) (pc' := 220) (st' := [.ref 114, dz_I a1, .ref 114]) rfl rfl ?_
            refine wq_gr (idx := 16) (a := 117) (pc' := 223) rfl rfl ho_M rfl rfl ?_
            refine wp_s (i := .iconst 2) (n := 1) (pc' := 224) (st' := [dz_I 2, .ref 117, dz_I a1, .ref 114]) rfl rfl ?_
            refine wp_s (i := .iload_n 3) (n := 1) (pc' := 225) (st' := [dz_I s5.1, dz_I 2, .ref 117, dz_I a1, .ref 114]) rfl rfl ?_
            refine wq_2 (i := .imul) (z := 2 * s5.1) (pc' := 226) rfl rfl (op_mul _ _) rfl ?_
            refine wp_s (i := .iconst 1) (n := 1) (pc' := 227) (st' := [dz_I 1, dz_I (2 * s5.1), .ref 117, dz_I a1, .ref 114]) rfl rfl ?_
            refine wq_2 (i := .iadd) (z := (2 * s5.1) + 1) (pc' := 228) rfl rfl (op_add _ _) rfl ?_
            obtain ⟨k21, H⟩ := dz_ck H
            refine wq_ia (j' := dz_c ((2 * s5.1) + 1)) (pc' := 229) rfl ha_M_8 rfl k21.1 k21.2 rfl ?_
            refine wp_s (i := .iload 4) (n := 2) (pc' := 231) (st' := [dz_I (s5.2 114 32 (dz_c s5.1)), dz_I (q20 114 8 (dz_c ((2 * s5.1) + 1))), dz_I a1, .ref 114]) rfl rfl ?_
            refine wp_s (i := .iload 6) (n := 2) (pc' := 233) (st' := [dz_I q16, dz_I (s5.2 114 32 (dz_c s5.1)), dz_I (q20 114 8 (dz_c ((2 * s5.1) + 1))), dz_I a1, .ref 114]) rfl rfl ?_
            refine wq_2 (i := .isub) (z := (s5.2 114 32 (dz_c s5.1)) - q16) (pc' := 234) rfl rfl (op_sub _ _) rfl ?_
            refine wq_cv (Dq := D) (r' := mm_r150) (as0 := [dz_I a1, dz_I (q20 114 8 (dz_c ((2 * s5.1) + 1))), dz_I ((s5.2 114 32 (dz_c s5.1)) - q16)]) (rest := []) (ls' := [some (.ref 114), some (dz_I a1), some (dz_I (q20 114 8 (dz_c ((2 * s5.1) + 1)))), some (dz_I ((s5.2 114 32 (dz_c s5.1)) - q16))]) (pc' := 237) rfl rfl rfl rfl ho_M rfl rfl rfl ?_
            refine jw_M_leads (X := X) (D := D + 0) a1 (q20 114 8 (dz_c ((2 * s5.1) + 1))) ((s5.2 114 32 (dz_c s5.1)) - q16) q20 (dz_pm (dz_bi H) (fun q22 H => ?_))
            show mm_Wp X (D + 1) mm_r151 237 [some (.ref 114), some (dz_I a1), some (dz_I a2), some (dz_I s5.1), some (dz_I (s5.2 114 32 (dz_c s5.1))), some (dz_I (s5.2 114 0 (dz_c (0 + s5.1)))), some (dz_I q16)] [] (hz_0 q22) Q
            refine wq_inc (k := 3) (d := 1) (x := s5.1) (ls' := [some (.ref 114), some (dz_I a1), some (dz_I a2), some (dz_I (s5.1 + 1)), some (dz_I (s5.2 114 32 (dz_c s5.1))), some (dz_I (s5.2 114 0 (dz_c (0 + s5.1)))), some (dz_I q16)]) (pc' := 240) rfl rfl rfl rfl ?_
            refine wp_s (i := .goto (-141)) (n := 3) (pc' := 99) (st' := []) rfl rfl ?_
            replace H := dz_back H
            exact H (some (Int32.ofInt (s5.2 114 32 (dz_c s5.1)))) (some (Int32.ofInt (s5.2 114 0 (dz_c (0 + s5.1))))) (some (Int32.ofInt q16))
          · replace H := dz_if c18 H
            refine wp_s (i := .aload_n 0) (n := 1) (pc' := 185) (st' := [.ref 114]) rfl rfl ?_
            refine wq_gr (idx := 7) (a := 115) (pc' := 188) rfl rfl ho_M rfl rfl ?_
            refine wp_s (i := .iload_n 1) (n := 1) (pc' := 189) (st' := [dz_I a1, .ref 115]) rfl rfl ?_
            refine wp_s (i := .sipush 136) (n := 3) (pc' := 192) (st' := [dz_I 136, dz_I a1, .ref 115]) rfl rfl ?_
            refine wq_2 (i := .iadd) (z := a1 + 136) (pc' := 193) rfl rfl (op_add _ _) rfl ?_
            refine wp_s (i := .dup2) (n := 1) (pc' := 194) (st' := [dz_I (a1 + 136), .ref 115, dz_I (a1 + 136), .ref 115]) rfl rfl ?_
            obtain ⟨k23, H⟩ := dz_ck H
            refine wq_ia (j' := dz_c (a1 + 136)) (pc' := 195) rfl ha_M_0 rfl k23.1 k23.2 rfl ?_
            refine wp_s (i := .iload 4) (n := 2) (pc' := 197) (st' := [dz_I (s5.2 114 32 (dz_c s5.1)), dz_I (s5.2 114 0 (dz_c (a1 + 136))), dz_I (a1 + 136), .ref 115]) rfl rfl ?_
            refine wq_2 (i := .iadd) (z := (s5.2 114 0 (dz_c (a1 + 136))) + (s5.2 114 32 (dz_c s5.1))) (pc' := 198) rfl rfl (op_add _ _) rfl ?_
            refine wq_is (j' := dz_c (a1 + 136)) (x := (s5.2 114 0 (dz_c (a1 + 136))) + (s5.2 114 32 (dz_c s5.1))) (pc' := 199) rfl ha_M_0 rfl k23.1 k23.2 rfl (fun Z24 eZ24 => ?_)
            replace H := dz_le H Z24 eZ24
            clear eZ24
            refine wp_s (i := .goto 38) (n := 3) (pc' := 237) (st' := []) rfl rfl ?_
            refine wq_inc (k := 3) (d := 1) (x := s5.1) (ls' := [some (.ref 114), some (dz_I a1), some (dz_I a2), some (dz_I (s5.1 + 1)), some (dz_I (s5.2 114 32 (dz_c s5.1))), some (dz_I (s5.2 114 0 (dz_c (0 + s5.1)))), some (dz_I q16)]) (pc' := 240) rfl rfl rfl rfl ?_
            refine wp_s (i := .goto (-141)) (n := 3) (pc' := 99) (st' := []) rfl rfl ?_
            replace H := dz_back H
            exact H (some (Int32.ofInt (s5.2 114 32 (dz_c s5.1)))) (some (Int32.ofInt (s5.2 114 0 (dz_c (0 + s5.1))))) (some (Int32.ofInt q16))
        · skip
          refine wq_if (p := dz_c (s5.2 114 0 (dz_c (0 + s5.1))) ≠ 0) (tt := 135) (pc' := 130) rfl rfl (cz_ne rfl) rfl (fun c25 => ?_) (fun c25 => ?_)
          · replace H := dz_it c25 H
            refine wp_s (i := .iload 5) (n := 2) (pc' := 137) (st' := [dz_I (s5.2 114 0 (dz_c (0 + s5.1)))]) rfl rfl ?_
            refine wp_s (i := .iconst 1) (n := 1) (pc' := 138) (st' := [dz_I 1, dz_I (s5.2 114 0 (dz_c (0 + s5.1)))]) rfl rfl ?_
            refine wq_ic (p := dz_c (s5.2 114 0 (dz_c (0 + s5.1))) ≠ 1) (tt := 145) (pc' := 141) rfl rfl (cq_ne rfl dk_1) rfl (fun c26 => ?_) (fun c26 => ?_)
            · replace H := dz_it c26 H
              refine wp_s (i := .iload 4) (n := 2) (pc' := 147) (st' := [dz_I (s5.2 114 32 (dz_c s5.1))]) rfl rfl ?_
              refine wp_s (i := .aload_n 0) (n := 1) (pc' := 148) (st' := [.ref 114, dz_I (s5.2 114 32 (dz_c s5.1))]) rfl rfl ?_
              refine wq_gr (idx := 7) (a := 115) (pc' := 151) rfl rfl ho_M rfl rfl ?_
              refine wp_s (i := .iload_n 1) (n := 1) (pc' := 152) (st' := [dz_I a1, .ref 115, dz_I (s5.2 114 32 (dz_c s5.1))]) rfl rfl ?_
              refine wp_s (i := .sipush 134) (n := 3) (pc' := 155) (st' := [dz_I 134, dz_I a1, .ref 115, dz_I (s5.2 114 32 (dz_c s5.1))]) rfl rfl ?_
              refine wq_2 (i := .iadd) (z := a1 + 134) (pc' := 156) rfl rfl (op_add _ _) rfl ?_
              obtain ⟨k27, H⟩ := dz_ck H
              refine wq_ia (j' := dz_c (a1 + 134)) (pc' := 157) rfl ha_M_0 rfl k27.1 k27.2 rfl ?_
              refine wp_s (i := .iconst 2) (n := 1) (pc' := 158) (st' := [dz_I 2, dz_I (s5.2 114 0 (dz_c (a1 + 134))), dz_I (s5.2 114 32 (dz_c s5.1))]) rfl rfl ?_
              refine wq_2 (i := .irem) (z := Int.tmod (dz_c (s5.2 114 0 (dz_c (a1 + 134)))) 2) (pc' := 159) rfl rfl (op_rem rfl dk_2 (by decide)) rfl ?_
              refine wq_if (p := dz_c (Int.tmod (dz_c (s5.2 114 0 (dz_c (a1 + 134)))) 2) ≠ 0) (tt := 166) (pc' := 162) rfl rfl (cz_ne rfl) rfl (fun c28 => ?_) (fun c28 => ?_)
              · replace H := dz_it c28 H
                refine wp_s (i := .iconst 0) (n := 1) (pc' := 167) (st' := [dz_I 0, dz_I (s5.2 114 32 (dz_c s5.1))]) rfl rfl ?_
                refine wq_2 (i := .iadd) (z := (s5.2 114 32 (dz_c s5.1)) + 0) (pc' := 168) rfl rfl (op_add _ _) rfl ?_
                refine wp_s (i := .iconst 2) (n := 1) (pc' := 169) (st' := [dz_I 2, dz_I ((s5.2 114 32 (dz_c s5.1)) + 0)]) rfl rfl ?_
                refine wq_2 (i := .idiv) (z := Int.tdiv (dz_c ((s5.2 114 32 (dz_c s5.1)) + 0)) 2) (pc' := 170) rfl rfl (op_div rfl dk_2 (by decide)) rfl ?_
                replace H := dz_sm H
                exact H
              · replace H := dz_if c28 H
                refine wp_s (i := .iconst 1) (n := 1) (pc' := 163) (st' := [dz_I 1, dz_I (s5.2 114 32 (dz_c s5.1))]) rfl rfl ?_
                refine wp_s (i := .goto 4) (n := 3) (pc' := 167) (st' := [dz_I 1, dz_I (s5.2 114 32 (dz_c s5.1))]) rfl rfl ?_
                refine wq_2 (i := .iadd) (z := (s5.2 114 32 (dz_c s5.1)) + 1) (pc' := 168) rfl rfl (op_add _ _) rfl ?_
                refine wp_s (i := .iconst 2) (n := 1) (pc' := 169) (st' := [dz_I 2, dz_I ((s5.2 114 32 (dz_c s5.1)) + 1)]) rfl rfl ?_
                refine wq_2 (i := .idiv) (z := Int.tdiv (dz_c ((s5.2 114 32 (dz_c s5.1)) + 1)) 2) (pc' := 170) rfl rfl (op_div rfl dk_2 (by decide)) rfl ?_
                replace H := dz_sm H
                exact H
            · replace H := dz_if c26 H
              refine wp_s (i := .iconst 0) (n := 1) (pc' := 142) (st' := [dz_I 0]) rfl rfl ?_
              refine wp_s (i := .goto 28) (n := 3) (pc' := 170) (st' := [dz_I 0]) rfl rfl ?_
              replace H := dz_sm H
              exact H
          · replace H := dz_if c25 H
            refine wp_s (i := .iload 4) (n := 2) (pc' := 132) (st' := [dz_I (s5.2 114 32 (dz_c s5.1))]) rfl rfl ?_
            refine wp_s (i := .goto 38) (n := 3) (pc' := 170) (st' := [dz_I (s5.2 114 32 (dz_c s5.1))]) rfl rfl ?_
            replace H := dz_sm H
            exact H
    · replace H := dz_if c4 H
      refine wp_s (i := .aload_n 0) (n := 1) (pc' := 41) (st' := [.ref 114]) rfl rfl ?_
      refine wq_gr (idx := 52) (a := 129) (pc' := 44) rfl rfl ho_M rfl rfl ?_
      refine wp_s (i := .aload_n 0) (n := 1) (pc' := 45) (st' := [.ref 114, .ref 129]) rfl rfl ?_
      refine wq_gr (idx := 13) (a := 116) (pc' := 48) rfl rfl ho_M rfl rfl ?_
      refine wp_s (i := .iconst 2) (n := 1) (pc' := 49) (st' := [dz_I 2, .ref 116, .ref 129]) rfl rfl ?_
      refine wp_s (i := .iload_n 3) (n := 1) (pc' := 50) (st' := [dz_I s3.1, dz_I 2, .ref 116, .ref 129]) rfl rfl ?_
      refine wq_2 (i := .imul) (z := 2 * s3.1) (pc' := 51) rfl rfl (op_mul _ _) rfl ?_
      refine wp_s (i := .iconst 1) (n := 1) (pc' := 52) (st' := [dz_I 1, dz_I (2 * s3.1), .ref 116, .ref 129]) rfl rfl ?_
      refine wq_2 (i := .iadd) (z := (2 * s3.1) + 1) (pc' := 53) rfl rfl (op_add _ _) rfl ?_
      obtain ⟨k29, H⟩ := dz_ck H
      refine wq_ia (j' := dz_c ((2 * s3.1) + 1)) (pc' := 54) rfl ha_M_7 rfl k29.1 k29.2 rfl ?_
      refine wp_s (i := .dup2) (n := 1) (pc' := 55) (st' := [dz_I (s3.2 114 7 (dz_c ((2 * s3.1) + 1))), .ref 129, dz_I (s3.2 114 7 (dz_c ((2 * s3.1) + 1))), .ref 129]) rfl rfl ?_
      obtain ⟨k30, H⟩ := dz_ck H
      refine wq_ia (j' := dz_c (s3.2 114 7 (dz_c ((2 * s3.1) + 1)))) (pc' := 56) rfl ha_M_32 rfl k30.1 k30.2 rfl ?_
      refine wp_s (i := .aload_n 0) (n := 1) (pc' := 57) (st' := [.ref 114, dz_I (s3.2 114 32 (dz_c (s3.2 114 7 (dz_c ((2 * s3.1) + 1))))), dz_I (s3.2 114 7 (dz_c ((2 * s3.1) + 1))), .ref 129]) rfl rfl ?_
      refine wq_gr (idx := 13) (a := 116) (pc' := 60) rfl rfl ho_M rfl rfl ?_
      refine wp_s (i := .iconst 2) (n := 1) (pc' := 61) (st' := [dz_I 2, .ref 116, dz_I (s3.2 114 32 (dz_c (s3.2 114 7 (dz_c ((2 * s3.1) + 1))))), dz_I (s3.2 114 7 (dz_c ((2 * s3.1) + 1))), .ref 129]) rfl rfl ?_
      refine wp_s (i := .iload_n 3) (n := 1) (pc' := 62) (st' := [dz_I s3.1, dz_I 2, .ref 116, dz_I (s3.2 114 32 (dz_c (s3.2 114 7 (dz_c ((2 * s3.1) + 1))))), dz_I (s3.2 114 7 (dz_c ((2 * s3.1) + 1))), .ref 129]) rfl rfl ?_
      refine wq_2 (i := .imul) (z := 2 * s3.1) (pc' := 63) rfl rfl (op_mul _ _) rfl ?_
      obtain ⟨k31, H⟩ := dz_ck H
      refine wq_ia (j' := dz_c (2 * s3.1)) (pc' := 64) rfl ha_M_7 rfl k31.1 k31.2 rfl ?_
      refine wp_s (i := .iload_n 2) (n := 1) (pc' := 65) (st' := [dz_I a2, dz_I (s3.2 114 7 (dz_c (2 * s3.1))), dz_I (s3.2 114 32 (dz_c (s3.2 114 7 (dz_c ((2 * s3.1) + 1))))), dz_I (s3.2 114 7 (dz_c ((2 * s3.1) + 1))), .ref 129]) rfl rfl ?_
      refine wq_2 (i := .imul) (z := (s3.2 114 7 (dz_c (2 * s3.1))) * a2) (pc' := 66) rfl rfl (op_mul _ _) rfl ?_
      refine wq_2 (i := .iadd) (z := (s3.2 114 32 (dz_c (s3.2 114 7 (dz_c ((2 * s3.1) + 1))))) + ((s3.2 114 7 (dz_c (2 * s3.1))) * a2)) (pc' := 67) rfl rfl (op_add _ _) rfl ?_
      refine wq_is (j' := dz_c (s3.2 114 7 (dz_c ((2 * s3.1) + 1)))) (x := (s3.2 114 32 (dz_c (s3.2 114 7 (dz_c ((2 * s3.1) + 1))))) + ((s3.2 114 7 (dz_c (2 * s3.1))) * a2)) (pc' := 68) rfl ha_M_32 rfl k30.1 k30.2 rfl (fun Z32 eZ32 => ?_)
      replace H := dz_le H Z32 eZ32
      clear eZ32
      refine wp_s (i := .aload_n 0) (n := 1) (pc' := 69) (st' := [.ref 114]) rfl rfl ?_
      refine wq_gr (idx := 7) (a := 115) (pc' := 72) rfl rfl ho_M rfl rfl ?_
      refine wp_s (i := .iload_n 1) (n := 1) (pc' := 73) (st' := [dz_I a1, .ref 115]) rfl rfl ?_
      refine wp_s (i := .sipush 135) (n := 3) (pc' := 76) (st' := [dz_I 135, dz_I a1, .ref 115]) rfl rfl ?_
      refine wq_2 (i := .iadd) (z := a1 + 135) (pc' := 77) rfl rfl (op_add _ _) rfl ?_
      refine wp_s (i := .dup2) (n := 1) (pc' := 78) (st' := [dz_I (a1 + 135), .ref 115, dz_I (a1 + 135), .ref 115]) rfl rfl ?_
      obtain ⟨k33, H⟩ := dz_ck H
      refine wq_ia (j' := dz_c (a1 + 135)) (pc' := 79) rfl ha_M_0 rfl k33.1 k33.2 rfl ?_
      refine wp_s (i := .aload_n 0) (n := 1) (pc' := 80) (st' := [.ref 114, dz_I (Z32 114 0 (dz_c (a1 + 135))), dz_I (a1 + 135), .ref 115]) rfl rfl ?_
      refine wq_gr (idx := 13) (a := 116) (pc' := 83) rfl rfl ho_M rfl rfl ?_
      refine wp_s (i := .iconst 2) (n := 1) (pc' := 84) (st' := [dz_I 2, .ref 116, dz_I (Z32 114 0 (dz_c (a1 + 135))), dz_I (a1 + 135), .ref 115]) rfl rfl ?_
      refine wp_s (i := .iload_n 3) (n := 1) (pc' := 85) (st' := [dz_I s3.1, dz_I 2, .ref 116, dz_I (Z32 114 0 (dz_c (a1 + 135))), dz_I (a1 + 135), .ref 115]) rfl rfl ?_
      refine wq_2 (i := .imul) (z := 2 * s3.1) (pc' := 86) rfl rfl (op_mul _ _) rfl ?_
      refine wq_ia (j' := dz_c (2 * s3.1)) (pc' := 87) rfl ha_M_7 rfl k31.1 k31.2 rfl ?_
      refine wp_s (i := .iload_n 2) (n := 1) (pc' := 88) (st' := [dz_I a2, dz_I (Z32 114 7 (dz_c (2 * s3.1))), dz_I (Z32 114 0 (dz_c (a1 + 135))), dz_I (a1 + 135), .ref 115]) rfl rfl ?_
      refine wq_2 (i := .imul) (z := (Z32 114 7 (dz_c (2 * s3.1))) * a2) (pc' := 89) rfl rfl (op_mul _ _) rfl ?_
      refine wq_2 (i := .iadd) (z := (Z32 114 0 (dz_c (a1 + 135))) + ((Z32 114 7 (dz_c (2 * s3.1))) * a2)) (pc' := 90) rfl rfl (op_add _ _) rfl ?_
      refine wq_is (j' := dz_c (a1 + 135)) (x := (Z32 114 0 (dz_c (a1 + 135))) + ((Z32 114 7 (dz_c (2 * s3.1))) * a2)) (pc' := 91) rfl ha_M_0 rfl k33.1 k33.2 rfl (fun Z34 eZ34 => ?_)
      replace H := dz_le H Z34 eZ34
      clear eZ34
      refine wq_inc (k := 3) (d := 1) (x := s3.1) (ls' := [some (.ref 114), some (dz_I a1), some (dz_I a2), some (dz_I (s3.1 + 1)), none, none, none]) (pc' := 94) rfl rfl rfl rfl ?_
      refine wp_s (i := .goto (-62)) (n := 3) (pc' := 32) (st' := []) rfl rfl ?_
      replace H := dz_back H
      exact H
  · replace H := dz_if c2 H
    refine wp_s (i := .aload_n 0) (n := 1) (pc' := 9) (st' := [.ref 114]) rfl rfl ?_
    refine wq_gr (idx := 52) (a := 129) (pc' := 12) rfl rfl ho_M rfl rfl ?_
    refine wp_s (i := .iload_n 3) (n := 1) (pc' := 13) (st' := [dz_I s1.1, .ref 129]) rfl rfl ?_
    refine wp_s (i := .iconst 5) (n := 1) (pc' := 14) (st' := [dz_I 5, dz_I s1.1, .ref 129]) rfl rfl ?_
    refine wq_2 (i := .irem) (z := Int.tmod (dz_c s1.1) 5) (pc' := 15) rfl rfl (op_rem rfl dk_5 (by decide)) rfl ?_
    refine wp_s (i := .iconst 0) (n := 1) (pc' := 16) (st' := [dz_I 0, dz_I (Int.tmod (dz_c s1.1) 5), .ref 129]) rfl rfl ?_
    obtain ⟨k35, H⟩ := dz_ck H
    refine wq_is (j' := dz_c (Int.tmod (dz_c s1.1) 5)) (x := 0) (pc' := 17) rfl ha_M_32 rfl k35.1 k35.2 rfl (fun Z36 eZ36 => ?_)
    replace H := dz_le H Z36 eZ36
    clear eZ36
    refine wp_s (i := .aload_n 0) (n := 1) (pc' := 18) (st' := [.ref 114]) rfl rfl ?_
    refine wq_gr (idx := 55) (a := 130) (pc' := 21) rfl rfl ho_M rfl rfl ?_
    refine wp_s (i := .iload_n 3) (n := 1) (pc' := 22) (st' := [dz_I s1.1, .ref 130]) rfl rfl ?_
    refine wp_s (i := .iconst 0) (n := 1) (pc' := 23) (st' := [dz_I 0, dz_I s1.1, .ref 130]) rfl rfl ?_
    obtain ⟨k37, H⟩ := dz_ck H
    refine wq_is (j' := dz_c s1.1) (x := 0) (pc' := 24) rfl ha_M_33 rfl k37.1 k37.2 rfl (fun Z38 eZ38 => ?_)
    replace H := dz_le H Z38 eZ38
    clear eZ38
    refine wq_inc (k := 3) (d := 1) (x := s1.1) (ls' := [some (.ref 114), some (dz_I a1), some (dz_I a2), some (dz_I (s1.1 + 1)), none, none, none]) (pc' := 27) rfl rfl rfl rfl ?_
    refine wp_s (i := .goto (-25)) (n := 3) (pc' := 2) (st' := []) rfl rfl ?_
    replace H := dz_back H
    exact H
-- 152
def jf_M_sounds (a1 : Int) (a2 : Int) (a3 : Int) (Z : dz_Z) : Option (Int × dz_Z) := if 0 ≤ dz_c (10 + a2) ∧ dz_c (10 + a2) < 700 then if 0 ≤ dz_c (18 + a2) ∧ dz_c (18 + a2) < 700 then dz_a (dz_u Z 114 34 0 0) fun Z3 => if dz_c (Z 114 0 (dz_c (10 + a2))) = 0 then (if 0 ≤ dz_c (a1 + 136) ∧ dz_c (a1 + 136) < 700 then dz_a (dz_u Z3 114 0 (dz_c (a1 + 136)) ((Z3 114 0 (dz_c (a1 + 136))) + a3)) fun Z6 => if dz_c (Z 114 0 (dz_c (10 + a2))) ≠ 0 then (some (0, Z6)) else (if dz_c a3 ≤ 0 then (some (0, Z6)) else (some (1, Z6))) else none) else (if dz_c (Z 114 0 (dz_c (10 + a2))) ≠ 5 then (if dz_c (Z 114 0 (dz_c (10 + a2))) ≠ 3 then (if 0 ≤ dz_c ((a1 + 86) + a2) ∧ dz_c ((a1 + 86) + a2) < 700 then if dz_c (Z 114 0 (dz_c (10 + a2))) ≠ 2 then (if dz_c (Z 114 0 (dz_c (18 + a2))) ≠ 0 then dz_a ((Int.tdiv (dz_c ((Z3 114 0 (dz_c ((a1 + 86) + a2))) + a3)) (dz_c (Z 114 0 (dz_c (18 + a2))))) * (Z 114 0 (dz_c (18 + a2)))) fun x14 => dz_a (dz_u Z3 114 0 (dz_c ((a1 + 86) + a2)) (((Z3 114 0 (dz_c ((a1 + 86) + a2))) + a3) - x14)) fun Z15 => if 0 ≤ dz_c (a1 + 136) ∧ dz_c (a1 + 136) < 700 then Option.bind (α := Int) (if dz_c (Z 114 0 (dz_c (10 + a2))) ≠ 1 then (some 0) else (some x14)) (fun (q18 : Int) => dz_a (dz_u Z15 114 0 (dz_c (a1 + 136)) ((Z15 114 0 (dz_c (a1 + 136))) + q18)) fun Z19 => Option.bind (α := Int) (if dz_c (Z 114 0 (dz_c (10 + a2))) ≠ 4 then (some 0) else (some x14)) (fun (q21 : Int) => dz_a (dz_u Z19 114 34 0 q21) fun Z22 => some (Int.tdiv (dz_c ((Z3 114 0 (dz_c ((a1 + 86) + a2))) + a3)) (dz_c (Z 114 0 (dz_c (18 + a2)))), Z22))) else none else none) else (Option.bind (α := Int) (if dz_c ((Z3 114 0 (dz_c ((a1 + 86) + a2))) + a3) < dz_c (Z 114 0 (dz_c (18 + a2))) then (if dz_c ((Z3 114 0 (dz_c ((a1 + 86) + a2))) + a3) ≤ 0 then (some 0) else (some 1)) else (some ((Z3 114 0 (dz_c ((a1 + 86) + a2))) + a3))) (fun (q27 : Int) => if 0 ≤ dz_c (a1 + 136) ∧ dz_c (a1 + 136) < 700 then dz_a (dz_u Z3 114 0 (dz_c (a1 + 136)) ((Z3 114 0 (dz_c (a1 + 136))) + q27)) fun Z29 => dz_a (dz_u Z29 114 0 (dz_c ((a1 + 86) + a2)) (((Z3 114 0 (dz_c ((a1 + 86) + a2))) + a3) - q27)) fun Z30 => if dz_c ((Z3 114 0 (dz_c ((a1 + 86) + a2))) + a3) < dz_c (Z 114 0 (dz_c (18 + a2))) then (some (0, Z30)) else (some (1, Z30)) else none)) else none) else (if 0 ≤ dz_c ((a1 + 94) + a2) ∧ dz_c ((a1 + 94) + a2) < 700 then if 0 ≤ dz_c (a1 + 136) ∧ dz_c (a1 + 136) < 700 then dz_a (dz_u Z3 114 0 (dz_c (a1 + 136)) ((Z3 114 0 (dz_c (a1 + 136))) + a3)) fun Z36 => if dz_c (Z 114 0 (dz_c (18 + a2))) ≠ 0 then dz_a (dz_u Z36 114 0 (dz_c ((a1 + 94) + a2)) (Int.tmod (dz_c ((Z3 114 0 (dz_c ((a1 + 94) + a2))) + a3)) (dz_c (Z 114 0 (dz_c (18 + a2)))))) fun Z38 => some (Int.tdiv (dz_c ((Z3 114 0 (dz_c ((a1 + 94) + a2))) + a3)) (dz_c (Z 114 0 (dz_c (18 + a2)))), Z38) else none else none else none)) else (if 0 ≤ dz_c (a1 + 136) ∧ dz_c (a1 + 136) < 700 then dz_a (dz_u Z3 114 0 (dz_c (a1 + 136)) ((Z3 114 0 (dz_c (a1 + 136))) + a3)) fun Z40 => if dz_c (Z 114 0 (dz_c (10 + a2))) ≠ 0 then (some (0, Z40)) else (if dz_c a3 ≤ 0 then (some (0, Z40)) else (some (1, Z40))) else none)) else none else none
set_option maxRecDepth 20000 in
theorem jw_M_sounds {X : Option (List Int32)} {D : Nat} {Q : Option Value → mm_H → Prop} (a1 : Int) (a2 : Int) (a3 : Int) (Z : dz_Z) (H : dz_p (jf_M_sounds a1 a2 a3 Z) (fun q => Q (some (dz_I q.1)) (hz_0 q.2))) : mm_Wp X D mm_r152 0 [some (.ref 114), some (dz_I a1), some (dz_I a2), some (dz_I a3), none, none, none, none] [] (hz_0 Z) Q := by
  unfold jf_M_sounds at H
  refine wp_s (i := .aload_n 0) (n := 1) (pc' := 1) (st' := [.ref 114]) rfl rfl ?_
  refine wq_gr (idx := 7) (a := 115) (pc' := 4) rfl rfl ho_M rfl rfl ?_
  refine wp_s (i := .bipush 10) (n := 2) (pc' := 6) (st' := [dz_I 10, .ref 115]) rfl rfl ?_
  refine wp_s (i := .iload_n 2) (n := 1) (pc' := 7) (st' := [dz_I a2, dz_I 10, .ref 115]) rfl rfl ?_
  refine wq_2 (i := .iadd) (z := 10 + a2) (pc' := 8) rfl rfl (op_add _ _) rfl ?_
  obtain ⟨k1, H⟩ := dz_ck H
  refine wq_ia (j' := dz_c (10 + a2)) (pc' := 9) rfl ha_M_0 rfl k1.1 k1.2 rfl ?_
  refine wq_st (k := 4) (i := .istore 4) (n := 2) (ls' := [some (.ref 114), some (dz_I a1), some (dz_I a2), some (dz_I a3), some (dz_I (Z 114 0 (dz_c (10 + a2)))), none, none, none]) (pc' := 11) rfl rfl rfl rfl rfl ?_
  refine wp_s (i := .aload_n 0) (n := 1) (pc' := 12) (st' := [.ref 114]) rfl rfl ?_
  refine wq_gr (idx := 7) (a := 115) (pc' := 15) rfl rfl ho_M rfl rfl ?_
  refine wp_s (i := .bipush 18) (n := 2) (pc' := 17) (st' := [dz_I 18, .ref 115]) rfl rfl ?_
  refine wp_s (i := .iload_n 2) (n := 1) (pc' := 18) (st' := [dz_I a2, dz_I 18, .ref 115]) rfl rfl ?_
  refine wq_2 (i := .iadd) (z := 18 + a2) (pc' := 19) rfl rfl (op_add _ _) rfl ?_
  obtain ⟨k2, H⟩ := dz_ck H
  refine wq_ia (j' := dz_c (18 + a2)) (pc' := 20) rfl ha_M_0 rfl k2.1 k2.2 rfl ?_
  refine wq_st (k := 5) (i := .istore 5) (n := 2) (ls' := [some (.ref 114), some (dz_I a1), some (dz_I a2), some (dz_I a3), some (dz_I (Z 114 0 (dz_c (10 + a2)))), some (dz_I (Z 114 0 (dz_c (18 + a2)))), none, none]) (pc' := 22) rfl rfl rfl rfl rfl ?_
  refine wp_s (i := .aload_n 0) (n := 1) (pc' := 23) (st' := [.ref 114]) rfl rfl ?_
  refine wp_s (i := .iconst 0) (n := 1) (pc' := 24) (st' := [dz_I 0, .ref 114]) rfl rfl ?_
  refine wq_pi (idx := 213) (x := 0) (pc' := 27) rfl rfl rfl ho_M rfl rfl rfl rfl (fun Z3 eZ3 => ?_)
  replace H := dz_le H Z3 eZ3
  clear eZ3
  refine wp_s (i := .iload 4) (n := 2) (pc' := 29) (st' := [dz_I (Z 114 0 (dz_c (10 + a2)))]) rfl rfl ?_
  refine wq_if (p := dz_c (Z 114 0 (dz_c (10 + a2))) = 0) (tt := 38) (pc' := 32) rfl rfl (cz_eq rfl) rfl (fun c4 => ?_) (fun c4 => ?_)
  · replace H := dz_it c4 H
    refine wp_s (i := .aload_n 0) (n := 1) (pc' := 39) (st' := [.ref 114]) rfl rfl ?_
    refine wq_gr (idx := 7) (a := 115) (pc' := 42) rfl rfl ho_M rfl rfl ?_
    refine wp_s (i := .iload_n 1) (n := 1) (pc' := 43) (st' := [dz_I a1, .ref 115]) rfl rfl ?_
    refine wp_s (i := .sipush 136) (n := 3) (pc' := 46) (st' := [dz_I 136, dz_I a1, .ref 115]) rfl rfl ?_
    refine wq_2 (i := .iadd) (z := a1 + 136) (pc' := 47) rfl rfl (op_add _ _) rfl ?_
    refine wp_s (i := .dup2) (n := 1) (pc' := 48) (st' := [dz_I (a1 + 136), .ref 115, dz_I (a1 + 136), .ref 115]) rfl rfl ?_
    obtain ⟨k5, H⟩ := dz_ck H
    refine wq_ia (j' := dz_c (a1 + 136)) (pc' := 49) rfl ha_M_0 rfl k5.1 k5.2 rfl ?_
    refine wp_s (i := .iload_n 3) (n := 1) (pc' := 50) (st' := [dz_I a3, dz_I (Z3 114 0 (dz_c (a1 + 136))), dz_I (a1 + 136), .ref 115]) rfl rfl ?_
    refine wq_2 (i := .iadd) (z := (Z3 114 0 (dz_c (a1 + 136))) + a3) (pc' := 51) rfl rfl (op_add _ _) rfl ?_
    refine wq_is (j' := dz_c (a1 + 136)) (x := (Z3 114 0 (dz_c (a1 + 136))) + a3) (pc' := 52) rfl ha_M_0 rfl k5.1 k5.2 rfl (fun Z6 eZ6 => ?_)
    replace H := dz_le H Z6 eZ6
    clear eZ6
    refine wp_s (i := .iload 4) (n := 2) (pc' := 54) (st' := [dz_I (Z 114 0 (dz_c (10 + a2)))]) rfl rfl ?_
    refine wq_if (p := dz_c (Z 114 0 (dz_c (10 + a2))) ≠ 0) (tt := 65) (pc' := 57) rfl rfl (cz_ne rfl) rfl (fun c7 => ?_) (fun c7 => ?_)
    · replace H := dz_it c7 H
      refine wp_s (i := .iconst 0) (n := 1) (pc' := 66) (st' := [dz_I 0]) rfl rfl ?_
      refine wq_ri rfl rfl ?_
      replace H := dz_sm H
      exact H
    · replace H := dz_if c7 H
      refine wp_s (i := .iload_n 3) (n := 1) (pc' := 58) (st' := [dz_I a3]) rfl rfl ?_
      refine wq_if (p := dz_c a3 ≤ 0) (tt := 65) (pc' := 61) rfl rfl (cz_le rfl) rfl (fun c8 => ?_) (fun c8 => ?_)
      · replace H := dz_it c8 H
        refine wp_s (i := .iconst 0) (n := 1) (pc' := 66) (st' := [dz_I 0]) rfl rfl ?_
        refine wq_ri rfl rfl ?_
        replace H := dz_sm H
        exact H
      · replace H := dz_if c8 H
        refine wp_s (i := .iconst 1) (n := 1) (pc' := 62) (st' := [dz_I 1]) rfl rfl ?_
        refine wp_s (i := .goto 4) (n := 3) (pc' := 66) (st' := [dz_I 1]) rfl rfl ?_
        refine wq_ri rfl rfl ?_
        replace H := dz_sm H
        exact H
  · replace H := dz_if c4 H
    refine wp_s (i := .iload 4) (n := 2) (pc' := 34) (st' := [dz_I (Z 114 0 (dz_c (10 + a2)))]) rfl rfl ?_
    refine wp_s (i := .iconst 5) (n := 1) (pc' := 35) (st' := [dz_I 5, dz_I (Z 114 0 (dz_c (10 + a2)))]) rfl rfl ?_
    refine wq_ic (p := dz_c (Z 114 0 (dz_c (10 + a2))) ≠ 5) (tt := 67) (pc' := 38) rfl rfl (cq_ne rfl dk_5) rfl (fun c9 => ?_) (fun c9 => ?_)
    · replace H := dz_it c9 H
      refine wp_s (i := .iload 4) (n := 2) (pc' := 69) (st' := [dz_I (Z 114 0 (dz_c (10 + a2)))]) rfl rfl ?_
      refine wp_s (i := .iconst 3) (n := 1) (pc' := 70) (st' := [dz_I 3, dz_I (Z 114 0 (dz_c (10 + a2)))]) rfl rfl ?_
      refine wq_ic (p := dz_c (Z 114 0 (dz_c (10 + a2))) ≠ 3) (tt := 124) (pc' := 73) rfl rfl (cq_ne rfl dk_3) rfl (fun c10 => ?_) (fun c10 => ?_)
      · replace H := dz_it c10 H
        refine wp_s (i := .aload_n 0) (n := 1) (pc' := 125) (st' := [.ref 114]) rfl rfl ?_
        refine wq_gr (idx := 7) (a := 115) (pc' := 128) rfl rfl ho_M rfl rfl ?_
        refine wp_s (i := .iload_n 1) (n := 1) (pc' := 129) (st' := [dz_I a1, .ref 115]) rfl rfl ?_
        refine wp_s (i := .bipush 86) (n := 2) (pc' := 131) (st' := [dz_I 86, dz_I a1, .ref 115]) rfl rfl ?_
        refine wq_2 (i := .iadd) (z := a1 + 86) (pc' := 132) rfl rfl (op_add _ _) rfl ?_
        refine wp_s (i := .iload_n 2) (n := 1) (pc' := 133) (st' := [dz_I a2, dz_I (a1 + 86), .ref 115]) rfl rfl ?_
        refine wq_2 (i := .iadd) (z := (a1 + 86) + a2) (pc' := 134) rfl rfl (op_add _ _) rfl ?_
        obtain ⟨k11, H⟩ := dz_ck H
        refine wq_ia (j' := dz_c ((a1 + 86) + a2)) (pc' := 135) rfl ha_M_0 rfl k11.1 k11.2 rfl ?_
        refine wp_s (i := .iload_n 3) (n := 1) (pc' := 136) (st' := [dz_I a3, dz_I (Z3 114 0 (dz_c ((a1 + 86) + a2)))]) rfl rfl ?_
        refine wq_2 (i := .iadd) (z := (Z3 114 0 (dz_c ((a1 + 86) + a2))) + a3) (pc' := 137) rfl rfl (op_add _ _) rfl ?_
        refine wq_st (k := 6) (i := .istore 6) (n := 2) (ls' := [some (.ref 114), some (dz_I a1), some (dz_I a2), some (dz_I a3), some (dz_I (Z 114 0 (dz_c (10 + a2)))), some (dz_I (Z 114 0 (dz_c (18 + a2)))), some (dz_I ((Z3 114 0 (dz_c ((a1 + 86) + a2))) + a3)), none]) (pc' := 139) rfl rfl rfl rfl rfl ?_
        refine wp_s (i := .iload 4) (n := 2) (pc' := 141) (st' := [dz_I (Z 114 0 (dz_c (10 + a2)))]) rfl rfl ?_
        refine wp_s (i := .iconst 2) (n := 1) (pc' := 142) (st' := [dz_I 2, dz_I (Z 114 0 (dz_c (10 + a2)))]) rfl rfl ?_
        refine wq_ic (p := dz_c (Z 114 0 (dz_c (10 + a2))) ≠ 2) (tt := 213) (pc' := 145) rfl rfl (cq_ne rfl dk_2) rfl (fun c12 => ?_) (fun c12 => ?_)
        · replace H := dz_it c12 H
          refine wp_s (i := .iload 6) (n := 2) (pc' := 215) (st' := [dz_I ((Z3 114 0 (dz_c ((a1 + 86) + a2))) + a3)]) rfl rfl ?_
          refine wp_s (i := .iload 5) (n := 2) (pc' := 217) (st' := [dz_I (Z 114 0 (dz_c (18 + a2))), dz_I ((Z3 114 0 (dz_c ((a1 + 86) + a2))) + a3)]) rfl rfl ?_
          obtain ⟨k13, H⟩ := dz_ck H
          refine wq_2 (i := .idiv) (z := Int.tdiv (dz_c ((Z3 114 0 (dz_c ((a1 + 86) + a2))) + a3)) (dz_c (Z 114 0 (dz_c (18 + a2))))) (pc' := 218) rfl rfl (op_div rfl rfl k13) rfl ?_
          refine wp_s (i := .iload 5) (n := 2) (pc' := 220) (st' := [dz_I (Z 114 0 (dz_c (18 + a2))), dz_I (Int.tdiv (dz_c ((Z3 114 0 (dz_c ((a1 + 86) + a2))) + a3)) (dz_c (Z 114 0 (dz_c (18 + a2)))))]) rfl rfl ?_
          refine wq_2 (i := .imul) (z := (Int.tdiv (dz_c ((Z3 114 0 (dz_c ((a1 + 86) + a2))) + a3)) (dz_c (Z 114 0 (dz_c (18 + a2))))) * (Z 114 0 (dz_c (18 + a2)))) (pc' := 221) rfl rfl (op_mul _ _) rfl ?_
          refine wq_sa (k := 7) (F := fun x14 => [some (.ref 114), some (dz_I a1), some (dz_I a2), some (dz_I a3), some (dz_I (Z 114 0 (dz_c (10 + a2)))), some (dz_I (Z 114 0 (dz_c (18 + a2)))), some (dz_I ((Z3 114 0 (dz_c ((a1 + 86) + a2))) + a3)), some (dz_I x14)]) (i := .istore 7) (n := 2) (pc' := 223) rfl rfl (fun _ => rfl) (fun _ => rfl) rfl (fun x14 ex14 => ?_)
          show mm_Wp _ _ _ 223 [some (.ref 114), some (dz_I a1), some (dz_I a2), some (dz_I a3), some (dz_I (Z 114 0 (dz_c (10 + a2)))), some (dz_I (Z 114 0 (dz_c (18 + a2)))), some (dz_I ((Z3 114 0 (dz_c ((a1 + 86) + a2))) + a3)), some (dz_I x14)] [] _ _
          replace H := dz_le H x14 ex14
          clear ex14
          refine wp_s (i := .aload_n 0) (n := 1) (pc' := 224) (st' := [.ref 114]) rfl rfl ?_
          refine wq_gr (idx := 7) (a := 115) (pc' := 227) rfl rfl ho_M rfl rfl ?_
          refine wp_s (i := .iload_n 1) (n := 1) (pc' := 228) (st' := [dz_I a1, .ref 115]) rfl rfl ?_
          refine wp_s (i := .bipush 86) (n := 2) (pc' := 230) (st' := [dz_I 86, dz_I a1, .ref 115]) rfl rfl ?_
          refine wq_2 (i := .iadd) (z := a1 + 86) (pc' := 231) rfl rfl (op_add _ _) rfl ?_
          refine wp_s (i := .iload_n 2) (n := 1) (pc' := 232) (st' := [dz_I a2, dz_I (a1 + 86), .ref 115]) rfl rfl ?_
          refine wq_2 (i := .iadd) (z := (a1 + 86) + a2) (pc' := 233) rfl rfl (op_add _ _) rfl ?_
          refine wp_s (i := .iload 6) (n := 2) (pc' := 235) (st' := [dz_I ((Z3 114 0 (dz_c ((a1 + 86) + a2))) + a3), dz_I ((a1 + 86) + a2), .ref 115]) rfl rfl ?_
          refine wp_s (i := .iload 7) (n := 2) (pc' := 237) (st' := [dz_I x14, dz_I ((Z3 114 0 (dz_c ((a1 + 86) + a2))) + a3), dz_I ((a1 + 86) + a2), .ref 115]) rfl rfl ?_
          refine wq_2 (i := .isub) (z := ((Z3 114 0 (dz_c ((a1 + 86) + a2))) + a3) - x14) (pc' := 238) rfl rfl (op_sub _ _) rfl ?_
          refine wq_is (j' := dz_c ((a1 + 86) + a2)) (x := ((Z3 114 0 (dz_c ((a1 + 86) + a2))) + a3) - x14) (pc' := 239) rfl ha_M_0 rfl k11.1 k11.2 rfl (fun Z15 eZ15 => ?_)
          replace H := dz_le H Z15 eZ15
          clear eZ15
          refine wp_s (i := .aload_n 0) (n := 1) (pc' := 240) (st' := [.ref 114]) rfl rfl ?_
          refine wq_gr (idx := 7) (a := 115) (pc' := 243) rfl rfl ho_M rfl rfl ?_
          refine wp_s (i := .iload_n 1) (n := 1) (pc' := 244) (st' := [dz_I a1, .ref 115]) rfl rfl ?_
          refine wp_s (i := .sipush 136) (n := 3) (pc' := 247) (st' := [dz_I 136, dz_I a1, .ref 115]) rfl rfl ?_
          refine wq_2 (i := .iadd) (z := a1 + 136) (pc' := 248) rfl rfl (op_add _ _) rfl ?_
          refine wp_s (i := .dup2) (n := 1) (pc' := 249) (st' := [dz_I (a1 + 136), .ref 115, dz_I (a1 + 136), .ref 115]) rfl rfl ?_
          obtain ⟨k16, H⟩ := dz_ck H
          refine wq_ia (j' := dz_c (a1 + 136)) (pc' := 250) rfl ha_M_0 rfl k16.1 k16.2 rfl ?_
          refine wp_s (i := .iload 4) (n := 2) (pc' := 252) (st' := [dz_I (Z 114 0 (dz_c (10 + a2))), dz_I (Z15 114 0 (dz_c (a1 + 136))), dz_I (a1 + 136), .ref 115]) rfl rfl ?_
          refine wp_s (i := .iconst 1) (n := 1) (pc' := 253) (st' := [dz_I 1, dz_I (Z 114 0 (dz_c (10 + a2))), dz_I (Z15 114 0 (dz_c (a1 + 136))), dz_I (a1 + 136), .ref 115]) rfl rfl ?_
          refine dz_jn (P := fun (q18 : Int) => mm_Wp X D mm_r152 262 [some (.ref 114), some (dz_I a1), some (dz_I a2), some (dz_I a3), some (dz_I (Z 114 0 (dz_c (10 + a2)))), some (dz_I (Z 114 0 (dz_c (18 + a2)))), some (dz_I ((Z3 114 0 (dz_c ((a1 + 86) + a2))) + a3)), some (dz_I x14)] [dz_I q18, dz_I (Z15 114 0 (dz_c (a1 + 136))), dz_I (a1 + 136), .ref 115] (hz_0 Z15) Q) (dz_bi H) (fun q18 H => ?_) (fun H => ?_)
          · skip
            refine wq_2 (i := .iadd) (z := (Z15 114 0 (dz_c (a1 + 136))) + q18) (pc' := 263) rfl rfl (op_add _ _) rfl ?_
            refine wq_is (j' := dz_c (a1 + 136)) (x := (Z15 114 0 (dz_c (a1 + 136))) + q18) (pc' := 264) rfl ha_M_0 rfl k16.1 k16.2 rfl (fun Z19 eZ19 => ?_)
            replace H := dz_le H Z19 eZ19
            clear eZ19
            refine wp_s (i := .aload_n 0) (n := 1) (pc' := 265) (st' := [.ref 114]) rfl rfl ?_
            refine wp_s (i := .iload 4) (n := 2) (pc' := 267) (st' := [dz_I (Z 114 0 (dz_c (10 + a2))), .ref 114]) rfl rfl ?_
            refine wp_s (i := .iconst 4) (n := 1) (pc' := 268) (st' := [dz_I 4, dz_I (Z 114 0 (dz_c (10 + a2))), .ref 114]) rfl rfl ?_
            refine dz_jn (P := fun (q21 : Int) => mm_Wp X D mm_r152 277 [some (.ref 114), some (dz_I a1), some (dz_I a2), some (dz_I a3), some (dz_I (Z 114 0 (dz_c (10 + a2)))), some (dz_I (Z 114 0 (dz_c (18 + a2)))), some (dz_I ((Z3 114 0 (dz_c ((a1 + 86) + a2))) + a3)), some (dz_I x14)] [dz_I q21, .ref 114] (hz_0 Z19) Q) (dz_bi H) (fun q21 H => ?_) (fun H => ?_)
            · skip
              refine wq_pi (idx := 213) (x := q21) (pc' := 280) rfl rfl rfl ho_M rfl rfl rfl rfl (fun Z22 eZ22 => ?_)
              replace H := dz_le H Z22 eZ22
              clear eZ22
              refine wp_s (i := .iload 6) (n := 2) (pc' := 282) (st' := [dz_I ((Z3 114 0 (dz_c ((a1 + 86) + a2))) + a3)]) rfl rfl ?_
              refine wp_s (i := .iload 5) (n := 2) (pc' := 284) (st' := [dz_I (Z 114 0 (dz_c (18 + a2))), dz_I ((Z3 114 0 (dz_c ((a1 + 86) + a2))) + a3)]) rfl rfl ?_
              refine wq_2 (i := .idiv) (z := Int.tdiv (dz_c ((Z3 114 0 (dz_c ((a1 + 86) + a2))) + a3)) (dz_c (Z 114 0 (dz_c (18 + a2))))) (pc' := 285) rfl rfl (op_div rfl rfl k13) rfl ?_
              refine wq_ri rfl rfl ?_
              replace H := dz_sm H
              exact H
            · skip
              refine wq_ic (p := dz_c (Z 114 0 (dz_c (10 + a2))) ≠ 4) (tt := 276) (pc' := 271) rfl rfl (cq_ne rfl dk_4) rfl (fun c23 => ?_) (fun c23 => ?_)
              · replace H := dz_it c23 H
                refine wp_s (i := .iconst 0) (n := 1) (pc' := 277) (st' := [dz_I 0, .ref 114]) rfl rfl ?_
                replace H := dz_sm H
                exact H
              · replace H := dz_if c23 H
                refine wp_s (i := .iload 7) (n := 2) (pc' := 273) (st' := [dz_I x14, .ref 114]) rfl rfl ?_
                refine wp_s (i := .goto 4) (n := 3) (pc' := 277) (st' := [dz_I x14, .ref 114]) rfl rfl ?_
                replace H := dz_sm H
                exact H
          · skip
            refine wq_ic (p := dz_c (Z 114 0 (dz_c (10 + a2))) ≠ 1) (tt := 261) (pc' := 256) rfl rfl (cq_ne rfl dk_1) rfl (fun c24 => ?_) (fun c24 => ?_)
            · replace H := dz_it c24 H
              refine wp_s (i := .iconst 0) (n := 1) (pc' := 262) (st' := [dz_I 0, dz_I (Z15 114 0 (dz_c (a1 + 136))), dz_I (a1 + 136), .ref 115]) rfl rfl ?_
              replace H := dz_sm H
              exact H
            · replace H := dz_if c24 H
              refine wp_s (i := .iload 7) (n := 2) (pc' := 258) (st' := [dz_I x14, dz_I (Z15 114 0 (dz_c (a1 + 136))), dz_I (a1 + 136), .ref 115]) rfl rfl ?_
              refine wp_s (i := .goto 4) (n := 3) (pc' := 262) (st' := [dz_I x14, dz_I (Z15 114 0 (dz_c (a1 + 136))), dz_I (a1 + 136), .ref 115]) rfl rfl ?_
              replace H := dz_sm H
              exact H
        · replace H := dz_if c12 H
          refine wp_s (i := .iload 6) (n := 2) (pc' := 147) (st' := [dz_I ((Z3 114 0 (dz_c ((a1 + 86) + a2))) + a3)]) rfl rfl ?_
          refine wp_s (i := .iload 5) (n := 2) (pc' := 149) (st' := [dz_I (Z 114 0 (dz_c (18 + a2))), dz_I ((Z3 114 0 (dz_c ((a1 + 86) + a2))) + a3)]) rfl rfl ?_
          refine dz_jn (P := fun (q27 : Int) => mm_Wp X D mm_r152 167 [some (.ref 114), some (dz_I a1), some (dz_I a2), some (dz_I a3), some (dz_I (Z 114 0 (dz_c (10 + a2)))), some (dz_I (Z 114 0 (dz_c (18 + a2)))), some (dz_I ((Z3 114 0 (dz_c ((a1 + 86) + a2))) + a3)), none] [dz_I q27] (hz_0 Z3) Q) (dz_bi H) (fun q27 H => ?_) (fun H => ?_)
          · skip
            refine wq_st (k := 7) (i := .istore 7) (n := 2) (ls' := [some (.ref 114), some (dz_I a1), some (dz_I a2), some (dz_I a3), some (dz_I (Z 114 0 (dz_c (10 + a2)))), some (dz_I (Z 114 0 (dz_c (18 + a2)))), some (dz_I ((Z3 114 0 (dz_c ((a1 + 86) + a2))) + a3)), some (dz_I q27)]) (pc' := 169) rfl rfl rfl rfl rfl ?_
            refine wp_s (i := .aload_n 0) (n := 1) (pc' := 170) (st' := [.ref 114]) rfl rfl ?_
            refine wq_gr (idx := 7) (a := 115) (pc' := 173) rfl rfl ho_M rfl rfl ?_
            refine wp_s (i := .iload_n 1) (n := 1) (pc' := 174) (st' := [dz_I a1, .ref 115]) rfl rfl ?_
            refine wp_s (i := .sipush 136) (n := 3) (pc' := 177) (st' := [dz_I 136, dz_I a1, .ref 115]) rfl rfl ?_
            refine wq_2 (i := .iadd) (z := a1 + 136) (pc' := 178) rfl rfl (op_add _ _) rfl ?_
            refine wp_s (i := .dup2) (n := 1) (pc' := 179) (st' := [dz_I (a1 + 136), .ref 115, dz_I (a1 + 136), .ref 115]) rfl rfl ?_
            obtain ⟨k28, H⟩ := dz_ck H
            refine wq_ia (j' := dz_c (a1 + 136)) (pc' := 180) rfl ha_M_0 rfl k28.1 k28.2 rfl ?_
            refine wp_s (i := .iload 7) (n := 2) (pc' := 182) (st' := [dz_I q27, dz_I (Z3 114 0 (dz_c (a1 + 136))), dz_I (a1 + 136), .ref 115]) rfl rfl ?_
            refine wq_2 (i := .iadd) (z := (Z3 114 0 (dz_c (a1 + 136))) + q27) (pc' := 183) rfl rfl (op_add _ _) rfl ?_
            refine wq_is (j' := dz_c (a1 + 136)) (x := (Z3 114 0 (dz_c (a1 + 136))) + q27) (pc' := 184) rfl ha_M_0 rfl k28.1 k28.2 rfl (fun Z29 eZ29 => ?_)
            replace H := dz_le H Z29 eZ29
            clear eZ29
            refine wp_s (i := .aload_n 0) (n := 1) (pc' := 185) (st' := [.ref 114]) rfl rfl ?_
            refine wq_gr (idx := 7) (a := 115) (pc' := 188) rfl rfl ho_M rfl rfl ?_
            refine wp_s (i := .iload_n 1) (n := 1) (pc' := 189) (st' := [dz_I a1, .ref 115]) rfl rfl ?_
            refine wp_s (i := .bipush 86) (n := 2) (pc' := 191) (st' := [dz_I 86, dz_I a1, .ref 115]) rfl rfl ?_
            refine wq_2 (i := .iadd) (z := a1 + 86) (pc' := 192) rfl rfl (op_add _ _) rfl ?_
            refine wp_s (i := .iload_n 2) (n := 1) (pc' := 193) (st' := [dz_I a2, dz_I (a1 + 86), .ref 115]) rfl rfl ?_
            refine wq_2 (i := .iadd) (z := (a1 + 86) + a2) (pc' := 194) rfl rfl (op_add _ _) rfl ?_
            refine wp_s (i := .iload 6) (n := 2) (pc' := 196) (st' := [dz_I ((Z3 114 0 (dz_c ((a1 + 86) + a2))) + a3), dz_I ((a1 + 86) + a2), .ref 115]) rfl rfl ?_
            refine wp_s (i := .iload 7) (n := 2) (pc' := 198) (st' := [dz_I q27, dz_I ((Z3 114 0 (dz_c ((a1 + 86) + a2))) + a3), dz_I ((a1 + 86) + a2), .ref 115]) rfl rfl ?_
            refine wq_2 (i := .isub) (z := ((Z3 114 0 (dz_c ((a1 + 86) + a2))) + a3) - q27) (pc' := 199) rfl rfl (op_sub _ _) rfl ?_
            refine wq_is (j' := dz_c ((a1 + 86) + a2)) (x := ((Z3 114 0 (dz_c ((a1 + 86) + a2))) + a3) - q27) (pc' := 200) rfl ha_M_0 rfl k11.1 k11.2 rfl (fun Z30 eZ30 => ?_)
            replace H := dz_le H Z30 eZ30
            clear eZ30
            refine wp_s (i := .iload 6) (n := 2) (pc' := 202) (st' := [dz_I ((Z3 114 0 (dz_c ((a1 + 86) + a2))) + a3)]) rfl rfl ?_
            refine wp_s (i := .iload 5) (n := 2) (pc' := 204) (st' := [dz_I (Z 114 0 (dz_c (18 + a2))), dz_I ((Z3 114 0 (dz_c ((a1 + 86) + a2))) + a3)]) rfl rfl ?_
            refine wq_ic (p := dz_c ((Z3 114 0 (dz_c ((a1 + 86) + a2))) + a3) < dz_c (Z 114 0 (dz_c (18 + a2)))) (tt := 211) (pc' := 207) rfl rfl (cq_lt rfl rfl) rfl (fun c31 => ?_) (fun c31 => ?_)
            · replace H := dz_it c31 H
              refine wp_s (i := .iconst 0) (n := 1) (pc' := 212) (st' := [dz_I 0]) rfl rfl ?_
              refine wq_ri rfl rfl ?_
              replace H := dz_sm H
              exact H
            · replace H := dz_if c31 H
              refine wp_s (i := .iconst 1) (n := 1) (pc' := 208) (st' := [dz_I 1]) rfl rfl ?_
              refine wp_s (i := .goto 4) (n := 3) (pc' := 212) (st' := [dz_I 1]) rfl rfl ?_
              refine wq_ri rfl rfl ?_
              replace H := dz_sm H
              exact H
          · skip
            refine wq_ic (p := dz_c ((Z3 114 0 (dz_c ((a1 + 86) + a2))) + a3) < dz_c (Z 114 0 (dz_c (18 + a2)))) (tt := 157) (pc' := 152) rfl rfl (cq_lt rfl rfl) rfl (fun c32 => ?_) (fun c32 => ?_)
            · replace H := dz_it c32 H
              refine wp_s (i := .iload 6) (n := 2) (pc' := 159) (st' := [dz_I ((Z3 114 0 (dz_c ((a1 + 86) + a2))) + a3)]) rfl rfl ?_
              refine wq_if (p := dz_c ((Z3 114 0 (dz_c ((a1 + 86) + a2))) + a3) ≤ 0) (tt := 166) (pc' := 162) rfl rfl (cz_le rfl) rfl (fun c33 => ?_) (fun c33 => ?_)
              · replace H := dz_it c33 H
                refine wp_s (i := .iconst 0) (n := 1) (pc' := 167) (st' := [dz_I 0]) rfl rfl ?_
                replace H := dz_sm H
                exact H
              · replace H := dz_if c33 H
                refine wp_s (i := .iconst 1) (n := 1) (pc' := 163) (st' := [dz_I 1]) rfl rfl ?_
                refine wp_s (i := .goto 4) (n := 3) (pc' := 167) (st' := [dz_I 1]) rfl rfl ?_
                replace H := dz_sm H
                exact H
            · replace H := dz_if c32 H
              refine wp_s (i := .iload 6) (n := 2) (pc' := 154) (st' := [dz_I ((Z3 114 0 (dz_c ((a1 + 86) + a2))) + a3)]) rfl rfl ?_
              refine wp_s (i := .goto 13) (n := 3) (pc' := 167) (st' := [dz_I ((Z3 114 0 (dz_c ((a1 + 86) + a2))) + a3)]) rfl rfl ?_
              replace H := dz_sm H
              exact H
      · replace H := dz_if c10 H
        refine wp_s (i := .aload_n 0) (n := 1) (pc' := 74) (st' := [.ref 114]) rfl rfl ?_
        refine wq_gr (idx := 7) (a := 115) (pc' := 77) rfl rfl ho_M rfl rfl ?_
        refine wp_s (i := .iload_n 1) (n := 1) (pc' := 78) (st' := [dz_I a1, .ref 115]) rfl rfl ?_
        refine wp_s (i := .bipush 94) (n := 2) (pc' := 80) (st' := [dz_I 94, dz_I a1, .ref 115]) rfl rfl ?_
        refine wq_2 (i := .iadd) (z := a1 + 94) (pc' := 81) rfl rfl (op_add _ _) rfl ?_
        refine wp_s (i := .iload_n 2) (n := 1) (pc' := 82) (st' := [dz_I a2, dz_I (a1 + 94), .ref 115]) rfl rfl ?_
        refine wq_2 (i := .iadd) (z := (a1 + 94) + a2) (pc' := 83) rfl rfl (op_add _ _) rfl ?_
        obtain ⟨k34, H⟩ := dz_ck H
        refine wq_ia (j' := dz_c ((a1 + 94) + a2)) (pc' := 84) rfl ha_M_0 rfl k34.1 k34.2 rfl ?_
        refine wp_s (i := .iload_n 3) (n := 1) (pc' := 85) (st' := [dz_I a3, dz_I (Z3 114 0 (dz_c ((a1 + 94) + a2)))]) rfl rfl ?_
        refine wq_2 (i := .iadd) (z := (Z3 114 0 (dz_c ((a1 + 94) + a2))) + a3) (pc' := 86) rfl rfl (op_add _ _) rfl ?_
        refine wq_st (k := 6) (i := .istore 6) (n := 2) (ls' := [some (.ref 114), some (dz_I a1), some (dz_I a2), some (dz_I a3), some (dz_I (Z 114 0 (dz_c (10 + a2)))), some (dz_I (Z 114 0 (dz_c (18 + a2)))), some (dz_I ((Z3 114 0 (dz_c ((a1 + 94) + a2))) + a3)), none]) (pc' := 88) rfl rfl rfl rfl rfl ?_
        refine wp_s (i := .aload_n 0) (n := 1) (pc' := 89) (st' := [.ref 114]) rfl rfl ?_
        refine wq_gr (idx := 7) (a := 115) (pc' := 92) rfl rfl ho_M rfl rfl ?_
        refine wp_s (i := .iload_n 1) (n := 1) (pc' := 93) (st' := [dz_I a1, .ref 115]) rfl rfl ?_
        refine wp_s (i := .sipush 136) (n := 3) (pc' := 96) (st' := [dz_I 136, dz_I a1, .ref 115]) rfl rfl ?_
        refine wq_2 (i := .iadd) (z := a1 + 136) (pc' := 97) rfl rfl (op_add _ _) rfl ?_
        refine wp_s (i := .dup2) (n := 1) (pc' := 98) (st' := [dz_I (a1 + 136), .ref 115, dz_I (a1 + 136), .ref 115]) rfl rfl ?_
        obtain ⟨k35, H⟩ := dz_ck H
        refine wq_ia (j' := dz_c (a1 + 136)) (pc' := 99) rfl ha_M_0 rfl k35.1 k35.2 rfl ?_
        refine wp_s (i := .iload_n 3) (n := 1) (pc' := 100) (st' := [dz_I a3, dz_I (Z3 114 0 (dz_c (a1 + 136))), dz_I (a1 + 136), .ref 115]) rfl rfl ?_
        refine wq_2 (i := .iadd) (z := (Z3 114 0 (dz_c (a1 + 136))) + a3) (pc' := 101) rfl rfl (op_add _ _) rfl ?_
        refine wq_is (j' := dz_c (a1 + 136)) (x := (Z3 114 0 (dz_c (a1 + 136))) + a3) (pc' := 102) rfl ha_M_0 rfl k35.1 k35.2 rfl (fun Z36 eZ36 => ?_)
        replace H := dz_le H Z36 eZ36
        clear eZ36
        refine wp_s (i := .aload_n 0) (n := 1) (pc' := 103) (st' := [.ref 114]) rfl rfl ?_
        refine wq_gr (idx := 7) (a := 115) (pc' := 106) rfl rfl ho_M rfl rfl ?_
        refine wp_s (i := .iload_n 1) (n := 1) (pc' := 107) (st' := [dz_I a1, .ref 115]) rfl rfl ?_
        refine wp_s (i := .bipush 94) (n := 2) (pc' := 109) (st' := [dz_I 94, dz_I a1, .ref 115]) rfl rfl ?_
        refine wq_2 (i := .iadd) (z := a1 + 94) (pc' := 110) rfl rfl (op_add _ _) rfl ?_
        refine wp_s (i := .iload_n 2) (n := 1) (pc' := 111) (st' := [dz_I a2, dz_I (a1 + 94), .ref 115]) rfl rfl ?_
        refine wq_2 (i := .iadd) (z := (a1 + 94) + a2) (pc' := 112) rfl rfl (op_add _ _) rfl ?_
        refine wp_s (i := .iload 6) (n := 2) (pc' := 114) (st' := [dz_I ((Z3 114 0 (dz_c ((a1 + 94) + a2))) + a3), dz_I ((a1 + 94) + a2), .ref 115]) rfl rfl ?_
        refine wp_s (i := .iload 5) (n := 2) (pc' := 116) (st' := [dz_I (Z 114 0 (dz_c (18 + a2))), dz_I ((Z3 114 0 (dz_c ((a1 + 94) + a2))) + a3), dz_I ((a1 + 94) + a2), .ref 115]) rfl rfl ?_
        obtain ⟨k37, H⟩ := dz_ck H
        refine wq_2 (i := .irem) (z := Int.tmod (dz_c ((Z3 114 0 (dz_c ((a1 + 94) + a2))) + a3)) (dz_c (Z 114 0 (dz_c (18 + a2))))) (pc' := 117) rfl rfl (op_rem rfl rfl k37) rfl ?_
        refine wq_is (j' := dz_c ((a1 + 94) + a2)) (x := Int.tmod (dz_c ((Z3 114 0 (dz_c ((a1 + 94) + a2))) + a3)) (dz_c (Z 114 0 (dz_c (18 + a2))))) (pc' := 118) rfl ha_M_0 rfl k34.1 k34.2 rfl (fun Z38 eZ38 => ?_)
        replace H := dz_le H Z38 eZ38
        clear eZ38
        refine wp_s (i := .iload 6) (n := 2) (pc' := 120) (st' := [dz_I ((Z3 114 0 (dz_c ((a1 + 94) + a2))) + a3)]) rfl rfl ?_
        refine wp_s (i := .iload 5) (n := 2) (pc' := 122) (st' := [dz_I (Z 114 0 (dz_c (18 + a2))), dz_I ((Z3 114 0 (dz_c ((a1 + 94) + a2))) + a3)]) rfl rfl ?_
        refine wq_2 (i := .idiv) (z := Int.tdiv (dz_c ((Z3 114 0 (dz_c ((a1 + 94) + a2))) + a3)) (dz_c (Z 114 0 (dz_c (18 + a2))))) (pc' := 123) rfl rfl (op_div rfl rfl k37) rfl ?_
        refine wq_ri rfl rfl ?_
        replace H := dz_sm H
        exact H
    · replace H := dz_if c9 H
      refine wp_s (i := .aload_n 0) (n := 1) (pc' := 39) (st' := [.ref 114]) rfl rfl ?_
      refine wq_gr (idx := 7) (a := 115) (pc' := 42) rfl rfl ho_M rfl rfl ?_
      refine wp_s (i := .iload_n 1) (n := 1) (pc' := 43) (st' := [dz_I a1, .ref 115]) rfl rfl ?_
      refine wp_s (i := .sipush 136) (n := 3) (pc' := 46) (st' := [dz_I 136, dz_I a1, .ref 115]) rfl rfl ?_
      refine wq_2 (i := .iadd) (z := a1 + 136) (pc' := 47) rfl rfl (op_add _ _) rfl ?_
      refine wp_s (i := .dup2) (n := 1) (pc' := 48) (st' := [dz_I (a1 + 136), .ref 115, dz_I (a1 + 136), .ref 115]) rfl rfl ?_
      obtain ⟨k39, H⟩ := dz_ck H
      refine wq_ia (j' := dz_c (a1 + 136)) (pc' := 49) rfl ha_M_0 rfl k39.1 k39.2 rfl ?_
      refine wp_s (i := .iload_n 3) (n := 1) (pc' := 50) (st' := [dz_I a3, dz_I (Z3 114 0 (dz_c (a1 + 136))), dz_I (a1 + 136), .ref 115]) rfl rfl ?_
      refine wq_2 (i := .iadd) (z := (Z3 114 0 (dz_c (a1 + 136))) + a3) (pc' := 51) rfl rfl (op_add _ _) rfl ?_
      refine wq_is (j' := dz_c (a1 + 136)) (x := (Z3 114 0 (dz_c (a1 + 136))) + a3) (pc' := 52) rfl ha_M_0 rfl k39.1 k39.2 rfl (fun Z40 eZ40 => ?_)
      replace H := dz_le H Z40 eZ40
      clear eZ40
      refine wp_s (i := .iload 4) (n := 2) (pc' := 54) (st' := [dz_I (Z 114 0 (dz_c (10 + a2)))]) rfl rfl ?_
      refine wq_if (p := dz_c (Z 114 0 (dz_c (10 + a2))) ≠ 0) (tt := 65) (pc' := 57) rfl rfl (cz_ne rfl) rfl (fun c41 => ?_) (fun c41 => ?_)
      · replace H := dz_it c41 H
        refine wp_s (i := .iconst 0) (n := 1) (pc' := 66) (st' := [dz_I 0]) rfl rfl ?_
        refine wq_ri rfl rfl ?_
        replace H := dz_sm H
        exact H
      · replace H := dz_if c41 H
        refine wp_s (i := .iload_n 3) (n := 1) (pc' := 58) (st' := [dz_I a3]) rfl rfl ?_
        refine wq_if (p := dz_c a3 ≤ 0) (tt := 65) (pc' := 61) rfl rfl (cz_le rfl) rfl (fun c42 => ?_) (fun c42 => ?_)
        · replace H := dz_it c42 H
          refine wp_s (i := .iconst 0) (n := 1) (pc' := 66) (st' := [dz_I 0]) rfl rfl ?_
          refine wq_ri rfl rfl ?_
          replace H := dz_sm H
          exact H
        · replace H := dz_if c42 H
          refine wp_s (i := .iconst 1) (n := 1) (pc' := 62) (st' := [dz_I 1]) rfl rfl ?_
          refine wp_s (i := .goto 4) (n := 3) (pc' := 66) (st' := [dz_I 1]) rfl rfl ?_
          refine wq_ri rfl rfl ?_
          replace H := dz_sm H
          exact H
-- 153
def jf_M_second (a1 : Int) (a2 : Int) (Z : dz_Z) : Option (Int × dz_Z) := Option.bind (jf_M_gutters a1 a2 Z) fun q1 => dz_lp (fun (s2 : Int × dz_Z) => if dz_c (s2.2 114 3 0) ≤ dz_c s2.1 then (dz_lp (fun (s4 : Int × Int × dz_Z) => if dz_c (s4.2.2 114 3 0) ≤ dz_c s4.2.1 then (dz_lp (fun (s7 : Int × dz_Z) => if dz_c (s7.2 114 3 0) ≤ dz_c s7.1 then (if 0 ≤ dz_c (a1 + 134) ∧ dz_c (a1 + 134) < 700 then dz_a (dz_u s7.2 114 0 (dz_c (a1 + 134)) ((s7.2 114 0 (dz_c (a1 + 134))) + 1)) fun Z10 => some (Sum.inr (Sum.inr (Sum.inr (s4.1, Z10)))) else none) else (if dz_c (s7.2 114 6 0) ≤ 0 then (some (Sum.inl (s7.1 + 1, s7.2))) else (if 0 ≤ dz_c ((a1 + 102) + s7.1) ∧ dz_c ((a1 + 102) + s7.1) < 700 then if dz_c (s7.2 114 0 (dz_c ((a1 + 102) + s7.1))) < dz_c (s7.2 114 6 0) then (some (Sum.inl (s7.1 + 1, s7.2))) else (if 0 ≤ dz_c ((a1 + 118) + s7.1) ∧ dz_c ((a1 + 118) + s7.1) < 700 then dz_a (dz_u s7.2 114 0 (dz_c ((a1 + 118) + s7.1)) 1) fun Z15 => some (Sum.inl (s7.1 + 1, Z15)) else none) else none))) 5000 (0, s4.2.2)) else (if 0 ≤ dz_c ((a1 + 102) + s4.2.1) ∧ dz_c ((a1 + 102) + s4.2.1) < 700 then if 0 ≤ dz_c s4.2.1 ∧ dz_c s4.2.1 < 8 then dz_a (dz_u s4.2.2 114 0 (dz_c ((a1 + 102) + s4.2.1)) ((s4.2.2 114 0 (dz_c ((a1 + 102) + s4.2.1))) + (s4.2.2 114 33 (dz_c s4.2.1)))) fun Z18 => Option.bind (jf_M_sounds a1 s4.2.1 (Z18 114 33 (dz_c s4.2.1)) Z18) fun q19 => Option.bind (α := dz_Z) (if dz_c (q19.2 114 34 0) ≤ 0 then (some q19.2) else (if 0 ≤ dz_c (26 + s4.2.1) ∧ dz_c (26 + s4.2.1) < 700 then if 0 ≤ dz_c ((a1 + 110) + (q19.2 114 0 (dz_c (26 + s4.2.1)))) ∧ dz_c ((a1 + 110) + (q19.2 114 0 (dz_c (26 + s4.2.1)))) < 700 then dz_a (dz_u q19.2 114 0 (dz_c ((a1 + 110) + (q19.2 114 0 (dz_c (26 + s4.2.1))))) ((q19.2 114 0 (dz_c ((a1 + 110) + (q19.2 114 0 (dz_c (26 + s4.2.1)))))) + (q19.2 114 34 0))) fun Z39 => some Z39 else none else none)) (fun (q24 : dz_Z) => if 0 ≤ dz_c ((a1 + 118) + s4.2.1) ∧ dz_c ((a1 + 118) + s4.2.1) < 700 then Option.bind (α := Int) (if dz_c (q24 114 0 (dz_c ((a1 + 118) + s4.2.1))) ≠ 1 then (some q19.1) else (some 0)) (fun (q27 : Int) => if 0 ≤ dz_c ((a1 + 126) + s4.2.1) ∧ dz_c ((a1 + 126) + s4.2.1) < 700 then dz_a (dz_u q24 114 0 (dz_c ((a1 + 126) + s4.2.1)) q27) fun Z29 => if 0 ≤ dz_c (a1 + 137) ∧ dz_c (a1 + 137) < 700 then dz_a (dz_u Z29 114 0 (dz_c (a1 + 137)) ((Z29 114 0 (dz_c (a1 + 137))) + q27)) fun Z31 => Option.bind (α := Int) (if dz_c q27 ≤ 0 then (some 0) else (some (dz_sl 1 (Z31 114 9 (dz_c s4.2.1))))) (fun (q33 : Int) => some (Sum.inl (dz_or s4.1 q33, s4.2.1 + 1, Z31))) else none else none) else none) else none else none)) 5000 (0, 0, s2.2)) else (if 0 ≤ dz_c s2.1 ∧ dz_c s2.1 < 8 then if 0 ≤ dz_c ((a1 + 110) + s2.1) ∧ dz_c ((a1 + 110) + s2.1) < 700 then dz_a (dz_u s2.2 114 33 (dz_c s2.1) ((s2.2 114 33 (dz_c s2.1)) + (s2.2 114 0 (dz_c ((a1 + 110) + s2.1))))) fun Z42 => dz_a (dz_u Z42 114 0 (dz_c ((a1 + 110) + s2.1)) 0) fun Z43 => some (Sum.inl (s2.1 + 1, Z43)) else none else none)) 5000 (0, q1)
set_option maxRecDepth 20000 in
theorem jw_M_second {X : Option (List Int32)} {D : Nat} {Q : Option Value → mm_H → Prop} (a1 : Int) (a2 : Int) (Z : dz_Z) (H : dz_p (jf_M_second a1 a2 Z) (fun q => Q (some (dz_I q.1)) (hz_0 q.2))) : mm_Wp X (D + 2) mm_r153 0 [some (.ref 114), some (dz_I a1), some (dz_I a2), none, none, none] [] (hz_0 Z) Q := by
  unfold jf_M_second at H
  refine wp_s (i := .aload_n 0) (n := 1) (pc' := 1) (st' := [.ref 114]) rfl rfl ?_
  refine wp_s (i := .iload_n 1) (n := 1) (pc' := 2) (st' := [dz_I a1, .ref 114]) rfl rfl ?_
  refine wp_s (i := .iload_n 2) (n := 1) (pc' := 3) (st' := [dz_I a2, dz_I a1, .ref 114]) rfl rfl ?_
  refine wq_cv (Dq := (D + 1)) (r' := mm_r151) (as0 := [dz_I a1, dz_I a2]) (rest := []) (ls' := [some (.ref 114), some (dz_I a1), some (dz_I a2), none, none, none, none]) (pc' := 6) rfl rfl rfl rfl ho_M rfl rfl rfl ?_
  refine jw_M_gutters (X := X) (D := D + 0) a1 a2 Z (dz_pm (dz_bi H) (fun q1 H => ?_))
  show mm_Wp X (D + 2) mm_r153 6 [some (.ref 114), some (dz_I a1), some (dz_I a2), none, none, none] [] (hz_0 q1) Q
  refine wp_s (i := .iconst 0) (n := 1) (pc' := 7) (st' := [dz_I 0]) rfl rfl ?_
  refine wq_st (k := 3) (i := .istore_n 3) (n := 1) (ls' := [some (.ref 114), some (dz_I a1), some (dz_I a2), some (dz_I 0), none, none]) (pc' := 8) rfl rfl rfl rfl rfl ?_
  refine wp_s (i := .iconst 0) (n := 1) (pc' := 9) (st' := [dz_I 0]) rfl rfl ?_
  refine wq_st (k := 4) (i := .istore 4) (n := 2) (ls' := [some (.ref 114), some (dz_I a1), some (dz_I a2), some (dz_I 0), some (dz_I 0), none]) (pc' := 11) rfl rfl rfl rfl rfl ?_
  refine dz_lpi (P := fun (s2 : Int × dz_Z) => mm_Wp X (D + 2) mm_r153 11 [some (.ref 114), some (dz_I a1), some (dz_I a2), some (dz_I 0), some (dz_I s2.1), none] [] (hz_0 s2.2) Q) (fun s2 H => ?_) 5000 (0, q1) H
  refine wp_s (i := .iload 4) (n := 2) (pc' := 13) (st' := [dz_I s2.1]) rfl rfl ?_
  refine wp_s (i := .aload_n 0) (n := 1) (pc' := 14) (st' := [.ref 114, dz_I s2.1]) rfl rfl ?_
  refine wq_gi (idx := 170) (pc' := 17) rfl rfl ho_M rfl rfl ?_
  refine wq_ic (p := dz_c (s2.2 114 3 0) ≤ dz_c s2.1) (tt := 61) (pc' := 20) rfl rfl (cq_ge rfl rfl) rfl (fun c3 => ?_) (fun c3 => ?_)
  · replace H := dz_it c3 H
    refine wp_s (i := .iconst 0) (n := 1) (pc' := 62) (st' := [dz_I 0]) rfl rfl ?_
    refine wq_st (k := 4) (i := .istore 4) (n := 2) (ls' := [some (.ref 114), some (dz_I a1), some (dz_I a2), some (dz_I 0), some (dz_I 0), none]) (pc' := 64) rfl rfl rfl rfl rfl ?_
    refine dz_lpi (P := fun (s4 : Int × Int × dz_Z) => ∀ (u5 : Option Int32), mm_Wp X (D + 2) mm_r153 64 [some (.ref 114), some (dz_I a1), some (dz_I a2), some (dz_I s4.1), some (dz_I s4.2.1), Option.map Value.int u5] [] (hz_0 s4.2.2) Q) (fun s4 H => ?_) 5000 (0, 0, s2.2) H none
    intro u5
    refine wp_s (i := .iload 4) (n := 2) (pc' := 66) (st' := [dz_I s4.2.1]) rfl rfl ?_
    refine wp_s (i := .aload_n 0) (n := 1) (pc' := 67) (st' := [.ref 114, dz_I s4.2.1]) rfl rfl ?_
    refine wq_gi (idx := 170) (pc' := 70) rfl rfl ho_M rfl rfl ?_
    refine wq_ic (p := dz_c (s4.2.2 114 3 0) ≤ dz_c s4.2.1) (tt := 225) (pc' := 73) rfl rfl (cq_ge rfl rfl) rfl (fun c6 => ?_) (fun c6 => ?_)
    · replace H := dz_it c6 H
      refine wp_s (i := .iconst 0) (n := 1) (pc' := 226) (st' := [dz_I 0]) rfl rfl ?_
      refine wq_st (k := 4) (i := .istore 4) (n := 2) (ls' := [some (.ref 114), some (dz_I a1), some (dz_I a2), some (dz_I s4.1), some (dz_I 0), Option.map Value.int u5]) (pc' := 228) rfl rfl rfl rfl rfl ?_
      refine dz_lpi (P := fun (s7 : Int × dz_Z) => mm_Wp X (D + 2) mm_r153 228 [some (.ref 114), some (dz_I a1), some (dz_I a2), some (dz_I s4.1), some (dz_I s7.1), Option.map Value.int u5] [] (hz_0 s7.2) Q) (fun s7 H => ?_) 5000 (0, s4.2.2) H
      refine wp_s (i := .iload 4) (n := 2) (pc' := 230) (st' := [dz_I s7.1]) rfl rfl ?_
      refine wp_s (i := .aload_n 0) (n := 1) (pc' := 231) (st' := [.ref 114, dz_I s7.1]) rfl rfl ?_
      refine wq_gi (idx := 170) (pc' := 234) rfl rfl ho_M rfl rfl ?_
      refine wq_ic (p := dz_c (s7.2 114 3 0) ≤ dz_c s7.1) (tt := 282) (pc' := 237) rfl rfl (cq_ge rfl rfl) rfl (fun c8 => ?_) (fun c8 => ?_)
      · replace H := dz_it c8 H
        refine wp_s (i := .aload_n 0) (n := 1) (pc' := 283) (st' := [.ref 114]) rfl rfl ?_
        refine wq_gr (idx := 7) (a := 115) (pc' := 286) rfl rfl ho_M rfl rfl ?_
        refine wp_s (i := .iload_n 1) (n := 1) (pc' := 287) (st' := [dz_I a1, .ref 115]) rfl rfl ?_
        refine wp_s (i := .sipush 134) (n := 3) (pc' := 290) (st' := [dz_I 134, dz_I a1, .ref 115]) rfl rfl ?_
        refine wq_2 (i := .iadd) (z := a1 + 134) (pc' := 291) rfl rfl (op_add _ _) rfl ?_
        refine wp_s (i := .dup2) (n := 1) (pc' := 292) (st' := [dz_I (a1 + 134), .ref 115, dz_I (a1 + 134), .ref 115]) rfl rfl ?_
        obtain ⟨k9, H⟩ := dz_ck H
        refine wq_ia (j' := dz_c (a1 + 134)) (pc' := 293) rfl ha_M_0 rfl k9.1 k9.2 rfl ?_
        refine wp_s (i := .iconst 1) (n := 1) (pc' := 294) (st' := [dz_I 1, dz_I (s7.2 114 0 (dz_c (a1 + 134))), dz_I (a1 + 134), .ref 115]) rfl rfl ?_
        refine wq_2 (i := .iadd) (z := (s7.2 114 0 (dz_c (a1 + 134))) + 1) (pc' := 295) rfl rfl (op_add _ _) rfl ?_
        refine wq_is (j' := dz_c (a1 + 134)) (x := (s7.2 114 0 (dz_c (a1 + 134))) + 1) (pc' := 296) rfl ha_M_0 rfl k9.1 k9.2 rfl (fun Z10 eZ10 => ?_)
        replace H := dz_le H Z10 eZ10
        clear eZ10
        refine wp_s (i := .iload_n 3) (n := 1) (pc' := 297) (st' := [dz_I s4.1]) rfl rfl ?_
        refine wq_ri rfl rfl ?_
        replace H := dz_out H
        replace H := dz_out H
        replace H := dz_out H
        replace H := dz_sm H
        exact H
      · replace H := dz_if c8 H
        refine wp_s (i := .aload_n 0) (n := 1) (pc' := 238) (st' := [.ref 114]) rfl rfl ?_
        refine wq_gi (idx := 179) (pc' := 241) rfl rfl ho_M rfl rfl ?_
        refine wq_if (p := dz_c (s7.2 114 6 0) ≤ 0) (tt := 276) (pc' := 244) rfl rfl (cz_le rfl) rfl (fun c11 => ?_) (fun c11 => ?_)
        · replace H := dz_it c11 H
          refine wq_inc (k := 4) (d := 1) (x := s7.1) (ls' := [some (.ref 114), some (dz_I a1), some (dz_I a2), some (dz_I s4.1), some (dz_I (s7.1 + 1)), Option.map Value.int u5]) (pc' := 279) rfl rfl rfl rfl ?_
          refine wp_s (i := .goto (-51)) (n := 3) (pc' := 228) (st' := []) rfl rfl ?_
          replace H := dz_back H
          exact H
        · replace H := dz_if c11 H
          refine wp_s (i := .aload_n 0) (n := 1) (pc' := 245) (st' := [.ref 114]) rfl rfl ?_
          refine wq_gr (idx := 7) (a := 115) (pc' := 248) rfl rfl ho_M rfl rfl ?_
          refine wp_s (i := .iload_n 1) (n := 1) (pc' := 249) (st' := [dz_I a1, .ref 115]) rfl rfl ?_
          refine wp_s (i := .bipush 102) (n := 2) (pc' := 251) (st' := [dz_I 102, dz_I a1, .ref 115]) rfl rfl ?_
          refine wq_2 (i := .iadd) (z := a1 + 102) (pc' := 252) rfl rfl (op_add _ _) rfl ?_
          refine wp_s (i := .iload 4) (n := 2) (pc' := 254) (st' := [dz_I s7.1, dz_I (a1 + 102), .ref 115]) rfl rfl ?_
          refine wq_2 (i := .iadd) (z := (a1 + 102) + s7.1) (pc' := 255) rfl rfl (op_add _ _) rfl ?_
          obtain ⟨k12, H⟩ := dz_ck H
          refine wq_ia (j' := dz_c ((a1 + 102) + s7.1)) (pc' := 256) rfl ha_M_0 rfl k12.1 k12.2 rfl ?_
          refine wp_s (i := .aload_n 0) (n := 1) (pc' := 257) (st' := [.ref 114, dz_I (s7.2 114 0 (dz_c ((a1 + 102) + s7.1)))]) rfl rfl ?_
          refine wq_gi (idx := 179) (pc' := 260) rfl rfl ho_M rfl rfl ?_
          refine wq_ic (p := dz_c (s7.2 114 0 (dz_c ((a1 + 102) + s7.1))) < dz_c (s7.2 114 6 0)) (tt := 276) (pc' := 263) rfl rfl (cq_lt rfl rfl) rfl (fun c13 => ?_) (fun c13 => ?_)
          · replace H := dz_it c13 H
            refine wq_inc (k := 4) (d := 1) (x := s7.1) (ls' := [some (.ref 114), some (dz_I a1), some (dz_I a2), some (dz_I s4.1), some (dz_I (s7.1 + 1)), Option.map Value.int u5]) (pc' := 279) rfl rfl rfl rfl ?_
            refine wp_s (i := .goto (-51)) (n := 3) (pc' := 228) (st' := []) rfl rfl ?_
            replace H := dz_back H
            exact H
          · replace H := dz_if c13 H
            refine wp_s (i := .aload_n 0) (n := 1) (pc' := 264) (st' := [.ref 114]) rfl rfl ?_
            refine wq_gr (idx := 7) (a := 115) (pc' := 267) rfl rfl ho_M rfl rfl ?_
            refine wp_s (i := .iload_n 1) (n := 1) (pc' := 268) (st' := [dz_I a1, .ref 115]) rfl rfl ?_
            refine wp_s (i := .bipush 118) (n := 2) (pc' := 270) (st' := [dz_I 118, dz_I a1, .ref 115]) rfl rfl ?_
            refine wq_2 (i := .iadd) (z := a1 + 118) (pc' := 271) rfl rfl (op_add _ _) rfl ?_
            refine wp_s (i := .iload 4) (n := 2) (pc' := 273) (st' := [dz_I s7.1, dz_I (a1 + 118), .ref 115]) rfl rfl ?_
            refine wq_2 (i := .iadd) (z := (a1 + 118) + s7.1) (pc' := 274) rfl rfl (op_add _ _) rfl ?_
            refine wp_s (i := .iconst 1) (n := 1) (pc' := 275) (st' := [dz_I 1, dz_I ((a1 + 118) + s7.1), .ref 115]) rfl rfl ?_
            obtain ⟨k14, H⟩ := dz_ck H
            refine wq_is (j' := dz_c ((a1 + 118) + s7.1)) (x := 1) (pc' := 276) rfl ha_M_0 rfl k14.1 k14.2 rfl (fun Z15 eZ15 => ?_)
            replace H := dz_le H Z15 eZ15
            clear eZ15
            refine wq_inc (k := 4) (d := 1) (x := s7.1) (ls' := [some (.ref 114), some (dz_I a1), some (dz_I a2), some (dz_I s4.1), some (dz_I (s7.1 + 1)), Option.map Value.int u5]) (pc' := 279) rfl rfl rfl rfl ?_
            refine wp_s (i := .goto (-51)) (n := 3) (pc' := 228) (st' := []) rfl rfl ?_
            replace H := dz_back H
            exact H
    · replace H := dz_if c6 H
      refine wp_s (i := .aload_n 0) (n := 1) (pc' := 74) (st' := [.ref 114]) rfl rfl ?_
      refine wq_gr (idx := 7) (a := 115) (pc' := 77) rfl rfl ho_M rfl rfl ?_
      refine wp_s (i := .iload_n 1) (n := 1) (pc' := 78) (st' := [dz_I a1, .ref 115]) rfl rfl ?_
      refine wp_s (i := .bipush 102) (n := 2) (pc' := 80) (st' := [dz_I 102, dz_I a1, .ref 115]) rfl rfl ?_
      refine wq_2 (i := .iadd) (z := a1 + 102) (pc' := 81) rfl rfl (op_add _ _) rfl ?_
      refine wp_s (i := .iload 4) (n := 2) (pc' := 83) (st' := [dz_I s4.2.1, dz_I (a1 + 102), .ref 115]) rfl rfl ?_
      refine wq_2 (i := .iadd) (z := (a1 + 102) + s4.2.1) (pc' := 84) rfl rfl (op_add _ _) rfl ?_
      refine wp_s (i := .dup2) (n := 1) (pc' := 85) (st' := [dz_I ((a1 + 102) + s4.2.1), .ref 115, dz_I ((a1 + 102) + s4.2.1), .ref 115]) rfl rfl ?_
      obtain ⟨k16, H⟩ := dz_ck H
      refine wq_ia (j' := dz_c ((a1 + 102) + s4.2.1)) (pc' := 86) rfl ha_M_0 rfl k16.1 k16.2 rfl ?_
      refine wp_s (i := .aload_n 0) (n := 1) (pc' := 87) (st' := [.ref 114, dz_I (s4.2.2 114 0 (dz_c ((a1 + 102) + s4.2.1))), dz_I ((a1 + 102) + s4.2.1), .ref 115]) rfl rfl ?_
      refine wq_gr (idx := 55) (a := 130) (pc' := 90) rfl rfl ho_M rfl rfl ?_
      refine wp_s (i := .iload 4) (n := 2) (pc' := 92) (st' := [dz_I s4.2.1, .ref 130, dz_I (s4.2.2 114 0 (dz_c ((a1 + 102) + s4.2.1))), dz_I ((a1 + 102) + s4.2.1), .ref 115]) rfl rfl ?_
      obtain ⟨k17, H⟩ := dz_ck H
      refine wq_ia (j' := dz_c s4.2.1) (pc' := 93) rfl ha_M_33 rfl k17.1 k17.2 rfl ?_
      refine wq_2 (i := .iadd) (z := (s4.2.2 114 0 (dz_c ((a1 + 102) + s4.2.1))) + (s4.2.2 114 33 (dz_c s4.2.1))) (pc' := 94) rfl rfl (op_add _ _) rfl ?_
      refine wq_is (j' := dz_c ((a1 + 102) + s4.2.1)) (x := (s4.2.2 114 0 (dz_c ((a1 + 102) + s4.2.1))) + (s4.2.2 114 33 (dz_c s4.2.1))) (pc' := 95) rfl ha_M_0 rfl k16.1 k16.2 rfl (fun Z18 eZ18 => ?_)
      replace H := dz_le H Z18 eZ18
      clear eZ18
      refine wp_s (i := .aload_n 0) (n := 1) (pc' := 96) (st' := [.ref 114]) rfl rfl ?_
      refine wp_s (i := .iload_n 1) (n := 1) (pc' := 97) (st' := [dz_I a1, .ref 114]) rfl rfl ?_
      refine wp_s (i := .iload 4) (n := 2) (pc' := 99) (st' := [dz_I s4.2.1, dz_I a1, .ref 114]) rfl rfl ?_
      refine wp_s (i := .aload_n 0) (n := 1) (pc' := 100) (st' := [.ref 114, dz_I s4.2.1, dz_I a1, .ref 114]) rfl rfl ?_
      refine wq_gr (idx := 55) (a := 130) (pc' := 103) rfl rfl ho_M rfl rfl ?_
      refine wp_s (i := .iload 4) (n := 2) (pc' := 105) (st' := [dz_I s4.2.1, .ref 130, dz_I s4.2.1, dz_I a1, .ref 114]) rfl rfl ?_
      refine wq_ia (j' := dz_c s4.2.1) (pc' := 106) rfl ha_M_33 rfl k17.1 k17.2 rfl ?_
      refine wq_cv (Dq := (D + 1)) (r' := mm_r152) (as0 := [dz_I a1, dz_I s4.2.1, dz_I (Z18 114 33 (dz_c s4.2.1))]) (rest := []) (ls' := [some (.ref 114), some (dz_I a1), some (dz_I s4.2.1), some (dz_I (Z18 114 33 (dz_c s4.2.1))), none, none, none, none]) (pc' := 109) rfl rfl rfl rfl ho_M rfl rfl rfl ?_
      refine jw_M_sounds (X := X) (D := D + 1) a1 s4.2.1 (Z18 114 33 (dz_c s4.2.1)) Z18 (dz_pm (dz_bi H) (fun q19 H => ?_))
      show mm_Wp X (D + 2) mm_r153 109 [some (.ref 114), some (dz_I a1), some (dz_I a2), some (dz_I s4.1), some (dz_I s4.2.1), Option.map Value.int u5] [dz_I q19.1] (hz_0 q19.2) Q
      refine wq_st (k := 5) (i := .istore 5) (n := 2) (ls' := [some (.ref 114), some (dz_I a1), some (dz_I a2), some (dz_I s4.1), some (dz_I s4.2.1), some (dz_I q19.1)]) (pc' := 111) rfl rfl rfl rfl rfl ?_
      refine wp_s (i := .aload_n 0) (n := 1) (pc' := 112) (st' := [.ref 114]) rfl rfl ?_
      refine wq_gi (idx := 213) (pc' := 115) rfl rfl ho_M rfl rfl ?_
      refine dz_jn (P := fun (q24 : dz_Z) => mm_Wp X (D + 2) mm_r153 145 [some (.ref 114), some (dz_I a1), some (dz_I a2), some (dz_I s4.1), some (dz_I s4.2.1), some (dz_I q19.1)] [] (hz_0 q24) Q) (dz_bi H) (fun q24 H => ?_) (fun H => ?_)
      · skip
        refine wp_s (i := .aload_n 0) (n := 1) (pc' := 146) (st' := [.ref 114]) rfl rfl ?_
        refine wq_gr (idx := 7) (a := 115) (pc' := 149) rfl rfl ho_M rfl rfl ?_
        refine wp_s (i := .iload_n 1) (n := 1) (pc' := 150) (st' := [dz_I a1, .ref 115]) rfl rfl ?_
        refine wp_s (i := .bipush 118) (n := 2) (pc' := 152) (st' := [dz_I 118, dz_I a1, .ref 115]) rfl rfl ?_
        refine wq_2 (i := .iadd) (z := a1 + 118) (pc' := 153) rfl rfl (op_add _ _) rfl ?_
        refine wp_s (i := .iload 4) (n := 2) (pc' := 155) (st' := [dz_I s4.2.1, dz_I (a1 + 118), .ref 115]) rfl rfl ?_
        refine wq_2 (i := .iadd) (z := (a1 + 118) + s4.2.1) (pc' := 156) rfl rfl (op_add _ _) rfl ?_
        obtain ⟨k25, H⟩ := dz_ck H
        refine wq_ia (j' := dz_c ((a1 + 118) + s4.2.1)) (pc' := 157) rfl ha_M_0 rfl k25.1 k25.2 rfl ?_
        refine wp_s (i := .iconst 1) (n := 1) (pc' := 158) (st' := [dz_I 1, dz_I (q24 114 0 (dz_c ((a1 + 118) + s4.2.1)))]) rfl rfl ?_
        refine dz_jn (P := fun (q27 : Int) => mm_Wp X (D + 2) mm_r153 167 [some (.ref 114), some (dz_I a1), some (dz_I a2), some (dz_I s4.1), some (dz_I s4.2.1), some (dz_I q19.1)] [dz_I q27] (hz_0 q24) Q) (dz_bi H) (fun q27 H => ?_) (fun H => ?_)
        · skip
          refine wq_st (k := 5) (i := .istore 5) (n := 2) (ls' := [some (.ref 114), some (dz_I a1), some (dz_I a2), some (dz_I s4.1), some (dz_I s4.2.1), some (dz_I q27)]) (pc' := 169) rfl rfl rfl rfl rfl ?_
          refine wp_s (i := .aload_n 0) (n := 1) (pc' := 170) (st' := [.ref 114]) rfl rfl ?_
          refine wq_gr (idx := 7) (a := 115) (pc' := 173) rfl rfl ho_M rfl rfl ?_
          refine wp_s (i := .iload_n 1) (n := 1) (pc' := 174) (st' := [dz_I a1, .ref 115]) rfl rfl ?_
          refine wp_s (i := .bipush 126) (n := 2) (pc' := 176) (st' := [dz_I 126, dz_I a1, .ref 115]) rfl rfl ?_
          refine wq_2 (i := .iadd) (z := a1 + 126) (pc' := 177) rfl rfl (op_add _ _) rfl ?_
          refine wp_s (i := .iload 4) (n := 2) (pc' := 179) (st' := [dz_I s4.2.1, dz_I (a1 + 126), .ref 115]) rfl rfl ?_
          refine wq_2 (i := .iadd) (z := (a1 + 126) + s4.2.1) (pc' := 180) rfl rfl (op_add _ _) rfl ?_
          refine wp_s (i := .iload 5) (n := 2) (pc' := 182) (st' := [dz_I q27, dz_I ((a1 + 126) + s4.2.1), .ref 115]) rfl rfl ?_
          obtain ⟨k28, H⟩ := dz_ck H
          refine wq_is (j' := dz_c ((a1 + 126) + s4.2.1)) (x := q27) (pc' := 183) rfl ha_M_0 rfl k28.1 k28.2 rfl (fun Z29 eZ29 => ?_)
          replace H := dz_le H Z29 eZ29
          clear eZ29
          refine wp_s (i := .aload_n 0) (n := 1) (pc' := 184) (st' := [.ref 114]) rfl rfl ?_
          refine wq_gr (idx := 7) (a := 115) (pc' := 187) rfl rfl ho_M rfl rfl ?_
          refine wp_s (i := .iload_n 1) (n := 1) (pc' := 188) (st' := [dz_I a1, .ref 115]) rfl rfl ?_
          refine wp_s (i := .sipush 137) (n := 3) (pc' := 191) (st' := [dz_I 137, dz_I a1, .ref 115]) rfl rfl ?_
          refine wq_2 (i := .iadd) (z := a1 + 137) (pc' := 192) rfl rfl (op_add _ _) rfl ?_
          refine wp_s (i := .dup2) (n := 1) (pc' := 193) (st' := [dz_I (a1 + 137), .ref 115, dz_I (a1 + 137), .ref 115]) rfl rfl ?_
          obtain ⟨k30, H⟩ := dz_ck H
          refine wq_ia (j' := dz_c (a1 + 137)) (pc' := 194) rfl ha_M_0 rfl k30.1 k30.2 rfl ?_
          refine wp_s (i := .iload 5) (n := 2) (pc' := 196) (st' := [dz_I q27, dz_I (Z29 114 0 (dz_c (a1 + 137))), dz_I (a1 + 137), .ref 115]) rfl rfl ?_
          refine wq_2 (i := .iadd) (z := (Z29 114 0 (dz_c (a1 + 137))) + q27) (pc' := 197) rfl rfl (op_add _ _) rfl ?_
          refine wq_is (j' := dz_c (a1 + 137)) (x := (Z29 114 0 (dz_c (a1 + 137))) + q27) (pc' := 198) rfl ha_M_0 rfl k30.1 k30.2 rfl (fun Z31 eZ31 => ?_)
          replace H := dz_le H Z31 eZ31
          clear eZ31
          refine wp_s (i := .iload_n 3) (n := 1) (pc' := 199) (st' := [dz_I s4.1]) rfl rfl ?_
          refine wp_s (i := .iload 5) (n := 2) (pc' := 201) (st' := [dz_I q27, dz_I s4.1]) rfl rfl ?_
          refine dz_jn (P := fun (q33 : Int) => mm_Wp X (D + 2) mm_r153 217 [some (.ref 114), some (dz_I a1), some (dz_I a2), some (dz_I s4.1), some (dz_I s4.2.1), some (dz_I q27)] [dz_I q33, dz_I s4.1] (hz_0 Z31) Q) (dz_bi H) (fun q33 H => ?_) (fun H => ?_)
          · skip
            refine wq_2 (i := .ior) (z := dz_or s4.1 q33) (pc' := 218) rfl rfl (op_or _ _) rfl ?_
            refine wq_st (k := 3) (i := .istore_n 3) (n := 1) (ls' := [some (.ref 114), some (dz_I a1), some (dz_I a2), some (dz_I (dz_or s4.1 q33)), some (dz_I s4.2.1), some (dz_I q27)]) (pc' := 219) rfl rfl rfl rfl rfl ?_
            refine wq_inc (k := 4) (d := 1) (x := s4.2.1) (ls' := [some (.ref 114), some (dz_I a1), some (dz_I a2), some (dz_I (dz_or s4.1 q33)), some (dz_I (s4.2.1 + 1)), some (dz_I q27)]) (pc' := 222) rfl rfl rfl rfl ?_
            refine wp_s (i := .goto (-158)) (n := 3) (pc' := 64) (st' := []) rfl rfl ?_
            replace H := dz_back H
            exact H (some (Int32.ofInt q27))
          · skip
            refine wq_if (p := dz_c q27 ≤ 0) (tt := 216) (pc' := 204) rfl rfl (cz_le rfl) rfl (fun c34 => ?_) (fun c34 => ?_)
            · replace H := dz_it c34 H
              refine wp_s (i := .iconst 0) (n := 1) (pc' := 217) (st' := [dz_I 0, dz_I s4.1]) rfl rfl ?_
              replace H := dz_sm H
              exact H
            · replace H := dz_if c34 H
              refine wp_s (i := .iconst 1) (n := 1) (pc' := 205) (st' := [dz_I 1, dz_I s4.1]) rfl rfl ?_
              refine wp_s (i := .aload_n 0) (n := 1) (pc' := 206) (st' := [.ref 114, dz_I 1, dz_I s4.1]) rfl rfl ?_
              refine wq_gr (idx := 19) (a := 118) (pc' := 209) rfl rfl ho_M rfl rfl ?_
              refine wp_s (i := .iload 4) (n := 2) (pc' := 211) (st' := [dz_I s4.2.1, .ref 118, dz_I 1, dz_I s4.1]) rfl rfl ?_
              refine wq_ia (j' := dz_c s4.2.1) (pc' := 212) rfl ha_M_9 rfl k17.1 k17.2 rfl ?_
              refine wq_2 (i := .ishl) (z := dz_sl 1 (Z31 114 9 (dz_c s4.2.1))) (pc' := 213) rfl rfl (op_shl _ _) rfl ?_
              refine wp_s (i := .goto 4) (n := 3) (pc' := 217) (st' := [dz_I (dz_sl 1 (Z31 114 9 (dz_c s4.2.1))), dz_I s4.1]) rfl rfl ?_
              replace H := dz_sm H
              exact H
        · skip
          refine wq_ic (p := dz_c (q24 114 0 (dz_c ((a1 + 118) + s4.2.1))) ≠ 1) (tt := 165) (pc' := 161) rfl rfl (cq_ne rfl dk_1) rfl (fun c35 => ?_) (fun c35 => ?_)
          · replace H := dz_it c35 H
            refine wp_s (i := .iload 5) (n := 2) (pc' := 167) (st' := [dz_I q19.1]) rfl rfl ?_
            replace H := dz_sm H
            exact H
          · replace H := dz_if c35 H
            refine wp_s (i := .iconst 0) (n := 1) (pc' := 162) (st' := [dz_I 0]) rfl rfl ?_
            refine wp_s (i := .goto 5) (n := 3) (pc' := 167) (st' := [dz_I 0]) rfl rfl ?_
            replace H := dz_sm H
            exact H
      · skip
        refine wq_if (p := dz_c (q19.2 114 34 0) ≤ 0) (tt := 145) (pc' := 118) rfl rfl (cz_le rfl) rfl (fun c36 => ?_) (fun c36 => ?_)
        · replace H := dz_it c36 H
          replace H := dz_sm H
          exact H
        · replace H := dz_if c36 H
          refine wp_s (i := .aload_n 0) (n := 1) (pc' := 119) (st' := [.ref 114]) rfl rfl ?_
          refine wq_gr (idx := 7) (a := 115) (pc' := 122) rfl rfl ho_M rfl rfl ?_
          refine wp_s (i := .iload_n 1) (n := 1) (pc' := 123) (st' := [dz_I a1, .ref 115]) rfl rfl ?_
          refine wp_s (i := .bipush 110) (n := 2) (pc' := 125) (st' := [dz_I 110, dz_I a1, .ref 115]) rfl rfl ?_
          refine wq_2 (i := .iadd) (z := a1 + 110) (pc' := 126) rfl rfl (op_add _ _) rfl ?_
          refine wp_s (i := .aload_n 0) (n := 1) (pc' := 127) (st' := [.ref 114, dz_I (a1 + 110), .ref 115]) rfl rfl ?_
          refine wq_gr (idx := 7) (a := 115) (pc' := 130) rfl rfl ho_M rfl rfl ?_
          refine wp_s (i := .bipush 26) (n := 2) (pc' := 132) (st' := [dz_I 26, .ref 115, dz_I (a1 + 110), .ref 115]) rfl rfl ?_
          refine wp_s (i := .iload 4) (n := 2) (pc' := 134) (st' := [dz_I s4.2.1, dz_I 26, .ref 115, dz_I (a1 + 110), .ref 115]) rfl rfl ?_
          refine wq_2 (i := .iadd) (z := 26 + s4.2.1) (pc' := 135) rfl rfl (op_add _ _) rfl ?_
          obtain ⟨k37, H⟩ := dz_ck H
          refine wq_ia (j' := dz_c (26 + s4.2.1)) (pc' := 136) rfl ha_M_0 rfl k37.1 k37.2 rfl ?_
          refine wq_2 (i := .iadd) (z := (a1 + 110) + (q19.2 114 0 (dz_c (26 + s4.2.1)))) (pc' := 137) rfl rfl (op_add _ _) rfl ?_
          refine wp_s (i := .dup2) (n := 1) (pc' := 138) (st' := [dz_I ((a1 + 110) + (q19.2 114 0 (dz_c (26 + s4.2.1)))), .ref 115, dz_I ((a1 + 110) + (q19.2 114 0 (dz_c (26 + s4.2.1)))), .ref 115]) rfl rfl ?_
          obtain ⟨k38, H⟩ := dz_ck H
          refine wq_ia (j' := dz_c ((a1 + 110) + (q19.2 114 0 (dz_c (26 + s4.2.1))))) (pc' := 139) rfl ha_M_0 rfl k38.1 k38.2 rfl ?_
          refine wp_s (i := .aload_n 0) (n := 1) (pc' := 140) (st' := [.ref 114, dz_I (q19.2 114 0 (dz_c ((a1 + 110) + (q19.2 114 0 (dz_c (26 + s4.2.1)))))), dz_I ((a1 + 110) + (q19.2 114 0 (dz_c (26 + s4.2.1)))), .ref 115]) rfl rfl ?_
          refine wq_gi (idx := 213) (pc' := 143) rfl rfl ho_M rfl rfl ?_
          refine wq_2 (i := .iadd) (z := (q19.2 114 0 (dz_c ((a1 + 110) + (q19.2 114 0 (dz_c (26 + s4.2.1)))))) + (q19.2 114 34 0)) (pc' := 144) rfl rfl (op_add _ _) rfl ?_
          refine wq_is (j' := dz_c ((a1 + 110) + (q19.2 114 0 (dz_c (26 + s4.2.1))))) (x := (q19.2 114 0 (dz_c ((a1 + 110) + (q19.2 114 0 (dz_c (26 + s4.2.1)))))) + (q19.2 114 34 0)) (pc' := 145) rfl ha_M_0 rfl k38.1 k38.2 rfl (fun Z39 eZ39 => ?_)
          replace H := dz_le H Z39 eZ39
          clear eZ39
          replace H := dz_sm H
          exact H
  · replace H := dz_if c3 H
    refine wp_s (i := .aload_n 0) (n := 1) (pc' := 21) (st' := [.ref 114]) rfl rfl ?_
    refine wq_gr (idx := 55) (a := 130) (pc' := 24) rfl rfl ho_M rfl rfl ?_
    refine wp_s (i := .iload 4) (n := 2) (pc' := 26) (st' := [dz_I s2.1, .ref 130]) rfl rfl ?_
    refine wp_s (i := .dup2) (n := 1) (pc' := 27) (st' := [dz_I s2.1, .ref 130, dz_I s2.1, .ref 130]) rfl rfl ?_
    obtain ⟨k40, H⟩ := dz_ck H
    refine wq_ia (j' := dz_c s2.1) (pc' := 28) rfl ha_M_33 rfl k40.1 k40.2 rfl ?_
    refine wp_s (i := .aload_n 0) (n := 1) (pc' := 29) (st' := [.ref 114, dz_I (s2.2 114 33 (dz_c s2.1)), dz_I s2.1, .ref 130]) rfl rfl ?_
    refine wq_gr (idx := 7) (a := 115) (pc' := 32) rfl rfl ho_M rfl rfl ?_
    refine wp_s (i := .iload_n 1) (n := 1) (pc' := 33) (st' := [dz_I a1, .ref 115, dz_I (s2.2 114 33 (dz_c s2.1)), dz_I s2.1, .ref 130]) rfl rfl ?_
    refine wp_s (i := .bipush 110) (n := 2) (pc' := 35) (st' := [dz_I 110, dz_I a1, .ref 115, dz_I (s2.2 114 33 (dz_c s2.1)), dz_I s2.1, .ref 130]) rfl rfl ?_
    refine wq_2 (i := .iadd) (z := a1 + 110) (pc' := 36) rfl rfl (op_add _ _) rfl ?_
    refine wp_s (i := .iload 4) (n := 2) (pc' := 38) (st' := [dz_I s2.1, dz_I (a1 + 110), .ref 115, dz_I (s2.2 114 33 (dz_c s2.1)), dz_I s2.1, .ref 130]) rfl rfl ?_
    refine wq_2 (i := .iadd) (z := (a1 + 110) + s2.1) (pc' := 39) rfl rfl (op_add _ _) rfl ?_
    obtain ⟨k41, H⟩ := dz_ck H
    refine wq_ia (j' := dz_c ((a1 + 110) + s2.1)) (pc' := 40) rfl ha_M_0 rfl k41.1 k41.2 rfl ?_
    refine wq_2 (i := .iadd) (z := (s2.2 114 33 (dz_c s2.1)) + (s2.2 114 0 (dz_c ((a1 + 110) + s2.1)))) (pc' := 41) rfl rfl (op_add _ _) rfl ?_
    refine wq_is (j' := dz_c s2.1) (x := (s2.2 114 33 (dz_c s2.1)) + (s2.2 114 0 (dz_c ((a1 + 110) + s2.1)))) (pc' := 42) rfl ha_M_33 rfl k40.1 k40.2 rfl (fun Z42 eZ42 => ?_)
    replace H := dz_le H Z42 eZ42
    clear eZ42
    refine wp_s (i := .aload_n 0) (n := 1) (pc' := 43) (st' := [.ref 114]) rfl rfl ?_
    refine wq_gr (idx := 7) (a := 115) (pc' := 46) rfl rfl ho_M rfl rfl ?_
    refine wp_s (i := .iload_n 1) (n := 1) (pc' := 47) (st' := [dz_I a1, .ref 115]) rfl rfl ?_
    refine wp_s (i := .bipush 110) (n := 2) (pc' := 49) (st' := [dz_I 110, dz_I a1, .ref 115]) rfl rfl ?_
    refine wq_2 (i := .iadd) (z := a1 + 110) (pc' := 50) rfl rfl (op_add _ _) rfl ?_
    refine wp_s (i := .iload 4) (n := 2) (pc' := 52) (st' := [dz_I s2.1, dz_I (a1 + 110), .ref 115]) rfl rfl ?_
    refine wq_2 (i := .iadd) (z := (a1 + 110) + s2.1) (pc' := 53) rfl rfl (op_add _ _) rfl ?_
    refine wp_s (i := .iconst 0) (n := 1) (pc' := 54) (st' := [dz_I 0, dz_I ((a1 + 110) + s2.1), .ref 115]) rfl rfl ?_
    refine wq_is (j' := dz_c ((a1 + 110) + s2.1)) (x := 0) (pc' := 55) rfl ha_M_0 rfl k41.1 k41.2 rfl (fun Z43 eZ43 => ?_)
    replace H := dz_le H Z43 eZ43
    clear eZ43
    refine wq_inc (k := 4) (d := 1) (x := s2.1) (ls' := [some (.ref 114), some (dz_I a1), some (dz_I a2), some (dz_I 0), some (dz_I (s2.1 + 1)), none]) (pc' := 58) rfl rfl rfl rfl ?_
    refine wp_s (i := .goto (-47)) (n := 3) (pc' := 11) (st' := []) rfl rfl ?_
    replace H := dz_back H
    exact H
-- 154
def jf_M_dries (a1 : Int) (Z : dz_Z) : Option (dz_Z) := dz_lp (fun (s1 : Int × dz_Z) => if 140 ≤ dz_c s1.1 then (some (Sum.inr s1.2)) else (if 0 ≤ dz_c (a1 + s1.1) ∧ dz_c (a1 + s1.1) < 700 then dz_a (dz_u s1.2 114 0 (dz_c (a1 + s1.1)) 0) fun Z4 => some (Sum.inl (s1.1 + 1, Z4)) else none)) 5000 (86, Z)
set_option maxRecDepth 20000 in
theorem jw_M_dries {X : Option (List Int32)} {D : Nat} {Q : Option Value → mm_H → Prop} (a1 : Int) (Z : dz_Z) (H : dz_p (jf_M_dries a1 Z) (fun q => Q (none) (hz_0 q))) : mm_Wp X D mm_r154 0 [some (.ref 114), some (dz_I a1), none] [] (hz_0 Z) Q := by
  unfold jf_M_dries at H
  refine wp_s (i := .bipush 86) (n := 2) (pc' := 2) (st' := [dz_I 86]) rfl rfl ?_
  refine wq_st (k := 2) (i := .istore_n 2) (n := 1) (ls' := [some (.ref 114), some (dz_I a1), some (dz_I 86)]) (pc' := 3) rfl rfl rfl rfl rfl ?_
  refine dz_lpi (P := fun (s1 : Int × dz_Z) => mm_Wp X D mm_r154 3 [some (.ref 114), some (dz_I a1), some (dz_I s1.1)] [] (hz_0 s1.2) Q) (fun s1 H => ?_) 5000 (86, Z) H
  refine wp_s (i := .iload_n 2) (n := 1) (pc' := 4) (st' := [dz_I s1.1]) rfl rfl ?_
  refine wp_s (i := .sipush 140) (n := 3) (pc' := 7) (st' := [dz_I 140, dz_I s1.1]) rfl rfl ?_
  refine wq_ic (p := 140 ≤ dz_c s1.1) (tt := 25) (pc' := 10) rfl rfl (cq_ge rfl dk_140) rfl (fun c2 => ?_) (fun c2 => ?_)
  · replace H := dz_it c2 H
    refine wq_rv rfl rfl ?_
    replace H := dz_out H
    replace H := dz_sm H
    exact H
  · replace H := dz_if c2 H
    refine wp_s (i := .aload_n 0) (n := 1) (pc' := 11) (st' := [.ref 114]) rfl rfl ?_
    refine wq_gr (idx := 7) (a := 115) (pc' := 14) rfl rfl ho_M rfl rfl ?_
    refine wp_s (i := .iload_n 1) (n := 1) (pc' := 15) (st' := [dz_I a1, .ref 115]) rfl rfl ?_
    refine wp_s (i := .iload_n 2) (n := 1) (pc' := 16) (st' := [dz_I s1.1, dz_I a1, .ref 115]) rfl rfl ?_
    refine wq_2 (i := .iadd) (z := a1 + s1.1) (pc' := 17) rfl rfl (op_add _ _) rfl ?_
    refine wp_s (i := .iconst 0) (n := 1) (pc' := 18) (st' := [dz_I 0, dz_I (a1 + s1.1), .ref 115]) rfl rfl ?_
    obtain ⟨k3, H⟩ := dz_ck H
    refine wq_is (j' := dz_c (a1 + s1.1)) (x := 0) (pc' := 19) rfl ha_M_0 rfl k3.1 k3.2 rfl (fun Z4 eZ4 => ?_)
    replace H := dz_le H Z4 eZ4
    clear eZ4
    refine wq_inc (k := 2) (d := 1) (x := s1.1) (ls' := [some (.ref 114), some (dz_I a1), some (dz_I (s1.1 + 1))]) (pc' := 22) rfl rfl rfl rfl ?_
    refine wp_s (i := .goto (-19)) (n := 3) (pc' := 3) (st' := []) rfl rfl ?_
    replace H := dz_back H
    exact H
end mg_25m11
